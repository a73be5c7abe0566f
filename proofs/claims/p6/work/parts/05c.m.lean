set_option maxRecDepth 100000 in
def f_X4_inherit_b73 (K30 : Nat → Int32 → Int32 → Int32 → Int32 → Int32 → Int32 → Int32 → jI → jL → Prop) (Z : jZ) (Q : jI → jL → Prop) (v0 : Nat) (v1 : Int32) (v2 : Int32) (v3 : Int32) (v4 : Int32) (v5 : Int32) (v6 : Int32) (v7 : Int32) (I : jI) (L : jL) : Prop := (∀ x1 : Int32, x1 = v7 + 1 → K30 v0 v1 v2 v3 v4 v5 v6 x1 I L)
set_option maxHeartbeats 4000000 in
set_option maxRecDepth 100000 in
theorem m_X4_inherit_b73 {G : jG} {Z : jZ} {Q : jI → jL → Prop} (E : jE G cX4_inherit RX4 w_X4_inherit 8 none { frames := 2, cells := 0, slots := 0, locals := 47 } (rtV Z Q)) (hZ : SH Z) (K30 : Nat → Int32 → Int32 → Int32 → Int32 → Int32 → Int32 → Int32 → jI → jL → Prop) (hK30 : ∀ (v0 : Nat) (v1 : Int32) (v2 : Int32) (v3 : Int32) (v4 : Int32) (v5 : Int32) (v6 : Int32) (v7 : Int32) (I : jI) (L : jL), jk Z v0 4 → K30 v0 v1 v2 v3 v4 v5 v6 v7 I L → jJ G 8 30 [(0, .ref v0), (1, .int v1), (2, .int v2), (3, .int v3), (4, .int v4), (5, .int v5), (6, .int v6), (7, .int v7)] [] Z I L 0 0) (v0 : Nat) (v1 : Int32) (v2 : Int32) (v3 : Int32) (v4 : Int32) (v5 : Int32) (v6 : Int32) (v7 : Int32) (I : jI) (L : jL) (kv0 : jk Z v0 4) (h : f_X4_inherit_b73 K30 Z Q v0 v1 v2 v3 v4 v5 v6 v7 I L) : jJ G 8 73 [(0, .ref v0), (1, .int v1), (2, .int v2), (3, .int v3), (4, .int v4), (5, .int v5), (6, .int v6), (7, .int v7)] [] Z I L 0 0 := by
  obtain ⟨x1, ex1⟩ : ∃ y : Int32, y = v7 + 1 := ⟨_, rfl⟩
  have h := h x1 ex1
  refine j_iinc E x1 [(7, .int x1), (0, .ref v0), (1, .int v1), (2, .int v2), (3, .int v3), (4, .int v4), (5, .int v5), (6, .int v6)] dX4_inherit_73 7 rfl (by rw [ex1]; rfl) (by decide) rfl ?_
  refine j_goto E 30 dX4_inherit_76 (by decide) ?_
  refine j_sub [1, 2, 3, 4, 5, 6, 7, 0] rfl ?_
  exact hK30 v0 v1 v2 v3 v4 v5 v6 x1 I L kv0 h
set_option maxRecDepth 100000 in
def f_X4_inherit_b66 (K30 : Nat → Int32 → Int32 → Int32 → Int32 → Int32 → Int32 → Int32 → jI → jL → Prop) (Z : jZ) (Q : jI → jL → Prop) (v0 : Nat) (v1 : Int32) (v2 : Int32) (v3 : Int32) (v4 : Int32) (v5 : Int32) (v6 : Int32) (v7 : Int32) (s0 : Nat) (s1 : Int32) (s2 : Int32) (s3 : Int32) (s4 : Int32) (s5 : Int32) (I : jI) (L : jL) : Prop := (f_X4_move s0 s1 s2 s3 (s4 + s5) Z I L (fun I4 L5 => (∀ x8 : Int32, x8 = v6 + (-1) → f_X4_inherit_b73 K30 Z Q v0 v1 v2 v3 v4 v5 x8 v7 I4 L5)))
set_option maxHeartbeats 4000000 in
set_option maxRecDepth 100000 in
theorem m_X4_inherit_b66 {G : jG} {Z : jZ} {Q : jI → jL → Prop} (E : jE G cX4_inherit RX4 w_X4_inherit 8 none { frames := 2, cells := 0, slots := 0, locals := 47 } (rtV Z Q)) (hZ : SH Z) (K30 : Nat → Int32 → Int32 → Int32 → Int32 → Int32 → Int32 → Int32 → jI → jL → Prop) (hK30 : ∀ (v0 : Nat) (v1 : Int32) (v2 : Int32) (v3 : Int32) (v4 : Int32) (v5 : Int32) (v6 : Int32) (v7 : Int32) (I : jI) (L : jL), jk Z v0 4 → K30 v0 v1 v2 v3 v4 v5 v6 v7 I L → jJ G 8 30 [(0, .ref v0), (1, .int v1), (2, .int v2), (3, .int v3), (4, .int v4), (5, .int v5), (6, .int v6), (7, .int v7)] [] Z I L 0 0) (v0 : Nat) (v1 : Int32) (v2 : Int32) (v3 : Int32) (v4 : Int32) (v5 : Int32) (v6 : Int32) (v7 : Int32) (s0 : Nat) (s1 : Int32) (s2 : Int32) (s3 : Int32) (s4 : Int32) (s5 : Int32) (I : jI) (L : jL) (kv0 : jk Z v0 4) (ks0 : jk Z s0 4) (h : f_X4_inherit_b66 K30 Z Q v0 v1 v2 v3 v4 v5 v6 v7 s0 s1 s2 s3 s4 s5 I L) : jJ G 8 66 [(0, .ref v0), (1, .int v1), (2, .int v2), (3, .int v3), (4, .int v4), (5, .int v5), (6, .int v6), (7, .int v7)] [.int s5, .int s4, .int s3, .int s2, .int s1, .ref s0] Z I L 0 0 := by
  refine j_iadd E dX4_inherit_66 ?_
  refine j_callV E [.int s1, .int s2, .int s3, .int (s4 + s5)] [] (c_X4_move (gL G) (gD G) (gY G) s0 s1 s2 s3 (s4 + s5) Z I L _ hZ ks0 h) (gwV W_236 W_237 W_238 W_160 W_235) rfl ⟨rfl, fy_X4_move⟩ ⟨by decide, by decide⟩ (c := 4) rfl (by decide) ks0 rfl rfl (Nat.le_of_ble_eq_true rfl) ⟨Nat.zero_le _, Nat.zero_le _⟩ dX4_inherit_67 (fun v2 Z3 I4 L5 q6 => ?_)
  obtain ⟨rfl, rfl, h⟩ := q6
  show jJ G 8 70 [(0, .ref v0), (1, .int v1), (2, .int v2), (3, .int v3), (4, .int v4), (5, .int v5), (6, .int v6), (7, .int v7)] [] Z I4 L5 0 0
  obtain ⟨x8, ex8⟩ : ∃ y : Int32, y = v6 + (-1) := ⟨_, rfl⟩
  have h := h x8 ex8
  refine j_iinc E x8 [(6, .int x8), (0, .ref v0), (1, .int v1), (2, .int v2), (3, .int v3), (4, .int v4), (5, .int v5), (7, .int v7)] dX4_inherit_70 6 rfl (by rw [ex8]; rfl) (by decide) rfl ?_
  refine j_sub [1, 2, 3, 4, 5, 6, 0, 7] rfl ?_
  exact m_X4_inherit_b73 E hZ K30 hK30 v0 v1 v2 v3 v4 v5 x8 v7 I4 L5 kv0 h
set_option maxRecDepth 100000 in
def f_X4_inherit_L30  (Z : jZ) (Q : jI → jL → Prop) : Nat → Nat → Int32 → Int32 → Int32 → Int32 → Int32 → Int32 → Int32 → jI → jL → Prop
  | 0 => fun _ _ _ _ _ _ _ _ _ _ => False
  | n + 1 => fun v0 v1 v2 v3 v4 v5 v6 v7 I L => (((8 : Int32) ≤ v7 → Q I L) ∧ (¬ ((8 : Int32) ≤ v7) → ((((v3 >>> (v7 &&& 31)) &&& (1 : Int32)) = 0 → f_X4_inherit_b73 (f_X4_inherit_L30 Z Q n) Z Q v0 v1 v2 v3 v4 v5 v6 v7 I L) ∧ (¬ (((v3 >>> (v7 &&& 31)) &&& (1 : Int32)) = 0) → (¬ v5 = 0 ∧ ((v6 ≤ 0 → f_X4_inherit_b66 (f_X4_inherit_L30 Z Q n) Z Q v0 v1 v2 v3 v4 v5 v6 v7 v0 v1 v2 v7 (v4 / v5) (0 : Int32) I L) ∧ (¬ (v6 ≤ 0) → f_X4_inherit_b66 (f_X4_inherit_L30 Z Q n) Z Q v0 v1 v2 v3 v4 v5 v6 v7 v0 v1 v2 v7 (v4 / v5) (1 : Int32) I L)))))))
set_option maxHeartbeats 4000000 in
set_option maxRecDepth 100000 in
theorem m_X4_inherit_L30 {G : jG} {Z : jZ} {Q : jI → jL → Prop} (E : jE G cX4_inherit RX4 w_X4_inherit 8 none { frames := 2, cells := 0, slots := 0, locals := 47 } (rtV Z Q)) (hZ : SH Z)  : ∀ (n : Nat) (v0 : Nat) (v1 : Int32) (v2 : Int32) (v3 : Int32) (v4 : Int32) (v5 : Int32) (v6 : Int32) (v7 : Int32) (I : jI) (L : jL), jk Z v0 4 → f_X4_inherit_L30  Z Q n v0 v1 v2 v3 v4 v5 v6 v7 I L → jJ G 8 30 [(0, .ref v0), (1, .int v1), (2, .int v2), (3, .int v3), (4, .int v4), (5, .int v5), (6, .int v6), (7, .int v7)] [] Z I L 0 0 := by
  intro n
  induction n with
  | zero => intro v0 v1 v2 v3 v4 v5 v6 v7 I L _ h; exact h.elim
  | succ n ih =>
    intro v0 v1 v2 v3 v4 v5 v6 v7 I L kv0 h
    have h : (((8 : Int32) ≤ v7 → Q I L) ∧ (¬ ((8 : Int32) ≤ v7) → ((((v3 >>> (v7 &&& 31)) &&& (1 : Int32)) = 0 → f_X4_inherit_b73 (f_X4_inherit_L30 Z Q n) Z Q v0 v1 v2 v3 v4 v5 v6 v7 I L) ∧ (¬ (((v3 >>> (v7 &&& 31)) &&& (1 : Int32)) = 0) → (¬ v5 = 0 ∧ ((v6 ≤ 0 → f_X4_inherit_b66 (f_X4_inherit_L30 Z Q n) Z Q v0 v1 v2 v3 v4 v5 v6 v7 v0 v1 v2 v7 (v4 / v5) (0 : Int32) I L) ∧ (¬ (v6 ≤ 0) → f_X4_inherit_b66 (f_X4_inherit_L30 Z Q n) Z Q v0 v1 v2 v3 v4 v5 v6 v7 v0 v1 v2 v7 (v4 / v5) (1 : Int32) I L))))))) := h
    obtain ⟨K30, eK30⟩ : ∃ K : Nat → Int32 → Int32 → Int32 → Int32 → Int32 → Int32 → Int32 → jI → jL → Prop, K = f_X4_inherit_L30  Z Q n := ⟨_, rfl⟩
    have hK30 := ih
    clear eK30 K30
    generalize f_X4_inherit_L30  Z Q n = K30 at hK30 h
    refine j_iload E dX4_inherit_30 7 rfl ?_
    refine j_bipush E (v := 8) dX4_inherit_32 (by decide) ?_
    refine j_icmp_ge E 79 dX4_inherit_34 (by decide) (fun c9 => ?_) (fun c9 => ?_)
    · have h := h.1 c9
      exact j_return E ⟨rfl, rfl, h⟩ (Nat.zero_le _) (Nat.zero_le _) dX4_inherit_79
    · have h := h.2 c9
      refine j_iload_n E dX4_inherit_37 3 rfl ?_
      refine j_iload E dX4_inherit_38 7 rfl ?_
      refine j_ishr E dX4_inherit_40 ?_
      refine j_iconst E (v := 1) dX4_inherit_41 (by decide) ?_
      refine j_iand E dX4_inherit_42 ?_
      refine j_if_eq E 73 dX4_inherit_43 (by decide) (fun c10 => ?_) (fun c10 => ?_)
      · have h := h.1 c10
        refine j_sub [0, 1, 2, 3, 4, 5, 6, 7] rfl ?_
        exact m_X4_inherit_b73 E hZ K30 hK30 v0 v1 v2 v3 v4 v5 v6 v7 I L kv0 h
      · have h := h.2 c10
        refine j_aload_n E dX4_inherit_46 0 rfl ?_
        refine j_iload_n E dX4_inherit_47 1 rfl ?_
        refine j_iload_n E dX4_inherit_48 2 rfl ?_
        refine j_iload E dX4_inherit_49 7 rfl ?_
        refine j_iload E dX4_inherit_51 4 rfl ?_
        refine j_iload E dX4_inherit_53 5 rfl ?_
        obtain ⟨o11, h⟩ := h
        refine j_idiv E dX4_inherit_55 o11 ?_
        refine j_iload E dX4_inherit_56 6 rfl ?_
        refine j_if_le E 65 dX4_inherit_58 (by decide) (fun c12 => ?_) (fun c12 => ?_)
        · have h := h.1 c12
          refine j_iconst E (v := 0) dX4_inherit_65 (by decide) ?_
          refine j_sub [0, 1, 2, 3, 4, 5, 6, 7] rfl ?_
          exact m_X4_inherit_b66 E hZ K30 hK30 v0 v1 v2 v3 v4 v5 v6 v7 v0 v1 v2 v7 (v4 / v5) (0 : Int32) I L kv0 kv0 h
        · have h := h.2 c12
          refine j_iconst E (v := 1) dX4_inherit_61 (by decide) ?_
          refine j_goto E 66 dX4_inherit_62 (by decide) ?_
          refine j_sub [0, 1, 2, 3, 4, 5, 6, 7] rfl ?_
          exact m_X4_inherit_b66 E hZ K30 hK30 v0 v1 v2 v3 v4 v5 v6 v7 v0 v1 v2 v7 (v4 / v5) (1 : Int32) I L kv0 kv0 h
set_option maxRecDepth 100000 in
def f_X4_inherit (v0 : Nat) (v1 : Int32) (v2 : Int32) (v3 : Int32) (Z : jZ) (I : jI) (L : jL) (Q : jI → jL → Prop) : Prop := (f_X4_shareOf v0 v1 v2 Z I L (fun r19 I15 L16 => (f_J6_bitCount_0f7a4 v3 Z I15 L16 (fun r26 I22 L23 => ((¬ r26 = 0 → (¬ r26 = 0 ∧ (∀ x29 : Int32, x29 = (r19 - r19 / r26 * r26) → (∃ m30 : Nat, f_X4_inherit_L30  Z Q m30 v0 v1 v2 v3 r19 r26 x29 (0 : Int32) I22 L23)))) ∧ (r26 = 0 → Q I22 L23))))))
set_option maxHeartbeats 4000000 in
set_option maxRecDepth 100000 in
theorem c_X4_inherit (l : Launch) (D : va_G) (cy : jC) (v0 : Nat) (v1 : Int32) (v2 : Int32) (v3 : Int32) (Z : jZ) (I : jI) (L : jL) (Q : jI → jL → Prop) (hZ : SH Z) (kv0 : jk Z v0 4) (h : f_X4_inherit v0 v1 v2 v3 Z I L Q) : jCt l yX4_inherit w_X4_inherit { frames := 2, cells := 0, slots := 0, locals := 47 } D cy [.ref v0, .int v1, .int v2, .int v3] Z I L (rtV Z Q) := by
  refine jCt_of (cc := cX4_inherit) (maxL := 8) (ret := none) (by decide +kernel) rfl (Nat.le_of_ble_eq_true rfl) ?_
  intro G eD eY eL E
  subst eD; subst eY; subst eL
  have E : jE G cX4_inherit RX4 w_X4_inherit 8 none { frames := 2, cells := 0, slots := 0, locals := 47 } (rtV Z Q) := E
  show jJ G 8 0 [(0, .ref v0), (1, .int v1), (2, .int v2), (3, .int v3)] [] Z I L 0 0
  refine j_aload_n E dX4_inherit_0 0 rfl ?_
  refine j_iload_n E dX4_inherit_1 1 rfl ?_
  refine j_iload_n E dX4_inherit_2 2 rfl ?_
  refine j_callV E [.int v1, .int v2] [] (c_X4_shareOf (gL G) (gD G) (gY G) v0 v1 v2 Z I L _ hZ kv0 h) (gwV W_223 W_224 W_225 W_160 W_222) rfl ⟨rfl, fy_X4_shareOf⟩ ⟨by decide, by decide⟩ (c := 4) rfl (by decide) kv0 rfl rfl (Nat.le_of_ble_eq_true rfl) ⟨Nat.zero_le _, Nat.zero_le _⟩ dX4_inherit_3 (fun v13 Z14 I15 L16 q17 => ?_)
  obtain ⟨rfl, r19, rfl, h⟩ := q17
  show jJ G 8 6 [(0, .ref v0), (1, .int v1), (2, .int v2), (3, .int v3)] [.int r19] Z I15 L16 0 0
  refine j_istore E 4 [(4, .int r19), (0, .ref v0), (1, .int v1), (2, .int v2), (3, .int v3)] dX4_inherit_6 (by decide) rfl ?_
  refine j_iload_n E dX4_inherit_8 4 rfl ?_
  refine j_callS E [.int v3] [] (c_J6_bitCount_0f7a4 (gL G) (gD G) (gY G) v3 Z I15 L16 _ hZ  h) (gwS W_241 W_242 W_240 W_239) rfl fy_J6_bitCount_0f7a4 ⟨by decide, by decide⟩ rfl rfl (Nat.le_of_ble_eq_true rfl) ⟨Nat.zero_le _, Nat.zero_le _⟩ dX4_inherit_9 (fun v20 Z21 I22 L23 q24 => ?_)
  obtain ⟨rfl, r26, rfl, h⟩ := q24
  show jJ G 8 12 [(4, .int r19), (0, .ref v0), (1, .int v1), (2, .int v2), (3, .int v3)] [.int r26] Z I22 L23 0 0
  refine j_istore E 5 [(5, .int r26), (4, .int r19), (0, .ref v0), (1, .int v1), (2, .int v2), (3, .int v3)] dX4_inherit_12 (by decide) rfl ?_
  refine j_iload E dX4_inherit_14 0 rfl ?_
  refine j_if_ne E 20 dX4_inherit_16 (by decide) (fun c27 => ?_) (fun c27 => ?_)
  · have h := h.1 c27
    refine j_iload E dX4_inherit_20 1 rfl ?_
    refine j_iload E dX4_inherit_22 0 rfl ?_
    obtain ⟨o28, h⟩ := h
    refine j_irem E dX4_inherit_24 o28 ?_
    refine j_topi (fun x29 ex29 => ?_)
    have h := h x29 ex29
    refine j_istore E 6 [(6, .int x29), (5, .int r26), (4, .int r19), (0, .ref v0), (1, .int v1), (2, .int v2), (3, .int v3)] dX4_inherit_25 (by decide) rfl ?_
    refine j_iconst E (v := 0) dX4_inherit_27 (by decide) ?_
    refine j_istore E 7 [(7, .int (0 : Int32)), (6, .int x29), (5, .int r26), (4, .int r19), (0, .ref v0), (1, .int v1), (2, .int v2), (3, .int v3)] dX4_inherit_28 (by decide) rfl ?_
    obtain ⟨n30, h⟩ := h
    refine j_sub [4, 5, 6, 7, 3, 2, 1, 0] rfl ?_
    exact m_X4_inherit_L30 E hZ  n30 v0 v1 v2 v3 r19 r26 x29 (0 : Int32) I22 L23 kv0 h
  · have h := h.2 c27
    exact j_return E ⟨rfl, rfl, h⟩ (Nat.zero_le _) (Nat.zero_le _) dX4_inherit_19
set_option maxRecDepth 100000 in
def f_X5_startAnew (v0 : Nat) (Z : jZ) (I : jI) (L : jL) (Q : jI → jL → Prop) : Prop := (∀ I1 : jI, I1 = jpI I v0 5 (-1 : Int32) → (∀ I2 : jI, I2 = jpI I1 v0 6 (I1 v0 0) → (∀ I3 : jI, I3 = jpI I2 v0 7 (I2 v0 1) → Q I3 L)))
set_option maxHeartbeats 4000000 in
set_option maxRecDepth 100000 in
theorem c_X5_startAnew (l : Launch) (D : va_G) (cy : jC) (v0 : Nat) (Z : jZ) (I : jI) (L : jL) (Q : jI → jL → Prop) (hZ : SH Z) (kv0 : jk Z v0 5) (h : f_X5_startAnew v0 Z I L Q) : jCt l yX5_startAnew w_X5_startAnew { frames := 0, cells := 0, slots := 0, locals := 0 } D cy [.ref v0] Z I L (rtV Z Q) := by
  refine jCt_of (cc := cX5_startAnew) (maxL := 1) (ret := none) (by decide +kernel) rfl (Nat.le_of_ble_eq_true rfl) ?_
  intro G eD eY eL E
  subst eD; subst eY; subst eL
  have E : jE G cX5_startAnew RX5 w_X5_startAnew 1 none { frames := 0, cells := 0, slots := 0, locals := 0 } (rtV Z Q) := E
  show jJ G 1 0 [(0, .ref v0)] [] Z I L 0 0
  refine j_aload_n E dX5_startAnew_0 0 rfl ?_
  refine j_iconst E (v := -1) dX5_startAnew_1 (by decide) ?_
  refine j_puti E 5 5 rfl rfl (by decide) (by decide) (iw iT_5) tyX5_ok nmX5 rfl rfl (tw W_243) rfl rfl rfl kv0 dX5_startAnew_2 ?_
  refine j_nmI (fun I1 eI1 => ?_)
  have h := h I1 eI1
  refine j_aload_n E dX5_startAnew_5 0 rfl ?_
  refine j_aload_n E dX5_startAnew_6 0 rfl ?_
  refine j_geti E 5 0 rfl rfl (by decide) (by decide) (iw iT_5) rfl rfl (tw W_244) kv0 dX5_startAnew_7 ?_
  refine j_puti E 5 6 rfl rfl (by decide) (by decide) (iw iT_5) tyX5_ok nmX5 rfl rfl (tw W_245) rfl rfl rfl kv0 dX5_startAnew_10 ?_
  refine j_nmI (fun I2 eI2 => ?_)
  have h := h I2 eI2
  refine j_aload_n E dX5_startAnew_13 0 rfl ?_
  refine j_aload_n E dX5_startAnew_14 0 rfl ?_
  refine j_geti E 5 1 rfl rfl (by decide) (by decide) (iw iT_5) rfl rfl (tw W_246) kv0 dX5_startAnew_15 ?_
  refine j_puti E 5 7 rfl rfl (by decide) (by decide) (iw iT_5) tyX5_ok nmX5 rfl rfl (tw W_247) rfl rfl rfl kv0 dX5_startAnew_18 ?_
  refine j_nmI (fun I3 eI3 => ?_)
  have h := h I3 eI3
  exact j_return E ⟨rfl, rfl, h⟩ (Nat.zero_le _) (Nat.zero_le _) dX5_startAnew_21
set_option maxRecDepth 100000 in
def f_X5_comesTo (v0 : Nat) (v1 : Int32) (Z : jZ) (I : jI) (L : jL) (Q : Int32 → jI → jL → Prop) : Prop := ((v1 ≤ (I v0 5) → Q (0 : Int32) I L) ∧ (¬ (v1 ≤ (I v0 5)) → (((I v0 2) < (v1 - (I v0 5)) → Q (0 : Int32) I L) ∧ (¬ ((I v0 2) < (v1 - (I v0 5))) → Q (1 : Int32) I L))))
set_option maxHeartbeats 4000000 in
set_option maxRecDepth 100000 in
theorem c_X5_comesTo (l : Launch) (D : va_G) (cy : jC) (v0 : Nat) (v1 : Int32) (Z : jZ) (I : jI) (L : jL) (Q : Int32 → jI → jL → Prop) (hZ : SH Z) (kv0 : jk Z v0 5) (h : f_X5_comesTo v0 v1 Z I L Q) : jCt l yX5_comesTo w_X5_comesTo { frames := 0, cells := 0, slots := 0, locals := 0 } D cy [.ref v0, .int v1] Z I L (rtZ Z Q) := by
  refine jCt_of (cc := cX5_comesTo) (maxL := 2) (ret := (some .boolean)) (by decide +kernel) rfl (Nat.le_of_ble_eq_true rfl) ?_
  intro G eD eY eL E
  subst eD; subst eY; subst eL
  have E : jE G cX5_comesTo RX5 w_X5_comesTo 2 (some .boolean) { frames := 0, cells := 0, slots := 0, locals := 0 } (rtZ Z Q) := E
  show jJ G 2 0 [(0, .ref v0), (1, .int v1)] [] Z I L 0 0
  refine j_iload_n E dX5_comesTo_0 1 rfl ?_
  refine j_aload_n E dX5_comesTo_1 0 rfl ?_
  refine j_geti E 5 5 rfl rfl (by decide) (by decide) (iw iT_5) rfl rfl (tw W_243) kv0 dX5_comesTo_2 ?_
  refine j_icmp_le E 25 dX5_comesTo_5 (by decide) (fun c1 => ?_) (fun c1 => ?_)
  · have h := h.1 c1
    refine j_iconst E (v := 0) dX5_comesTo_25 (by decide) ?_
    exact j_zreturn E (Or.inl rfl) ⟨rfl, _, rfl, (Or.inl rfl), h⟩ (Nat.zero_le _) (Nat.zero_le _) dX5_comesTo_26
  · have h := h.2 c1
    refine j_iload_n E dX5_comesTo_8 1 rfl ?_
    refine j_aload_n E dX5_comesTo_9 0 rfl ?_
    refine j_geti E 5 5 rfl rfl (by decide) (by decide) (iw iT_5) rfl rfl (tw W_243) kv0 dX5_comesTo_10 ?_
    refine j_isub E dX5_comesTo_13 ?_
    refine j_aload_n E dX5_comesTo_14 0 rfl ?_
    refine j_geti E 5 2 rfl rfl (by decide) (by decide) (iw iT_5) rfl rfl (tw W_248) kv0 dX5_comesTo_15 ?_
    refine j_icmp_gt E 25 dX5_comesTo_18 (by decide) (fun c2 => ?_) (fun c2 => ?_)
    · have h := h.1 c2
      refine j_iconst E (v := 0) dX5_comesTo_25 (by decide) ?_
      exact j_zreturn E (Or.inl rfl) ⟨rfl, _, rfl, (Or.inl rfl), h⟩ (Nat.zero_le _) (Nat.zero_le _) dX5_comesTo_26
    · have h := h.2 c2
      refine j_iconst E (v := 1) dX5_comesTo_21 (by decide) ?_
      refine j_goto E 26 dX5_comesTo_22 (by decide) ?_
      exact j_zreturn E (Or.inr rfl) ⟨rfl, _, rfl, (Or.inr rfl), h⟩ (Nat.zero_le _) (Nat.zero_le _) dX5_comesTo_26
set_option maxRecDepth 100000 in
def f_X5_vowsAgainst (v0 : Nat) (v1 : Int32) (Z : jZ) (I : jI) (L : jL) (Q : Int32 → jI → jL → Prop) : Prop := (((((I v0 4) >>> (v1 &&& 31)) &&& (1 : Int32)) = 0 → Q (0 : Int32) I L) ∧ (¬ ((((I v0 4) >>> (v1 &&& 31)) &&& (1 : Int32)) = 0) → Q (1 : Int32) I L))
set_option maxHeartbeats 4000000 in
set_option maxRecDepth 100000 in
theorem c_X5_vowsAgainst (l : Launch) (D : va_G) (cy : jC) (v0 : Nat) (v1 : Int32) (Z : jZ) (I : jI) (L : jL) (Q : Int32 → jI → jL → Prop) (hZ : SH Z) (kv0 : jk Z v0 5) (h : f_X5_vowsAgainst v0 v1 Z I L Q) : jCt l yX5_vowsAgainst w_X5_vowsAgainst { frames := 0, cells := 0, slots := 0, locals := 0 } D cy [.ref v0, .int v1] Z I L (rtZ Z Q) := by
  refine jCt_of (cc := cX5_vowsAgainst) (maxL := 2) (ret := (some .boolean)) (by decide +kernel) rfl (Nat.le_of_ble_eq_true rfl) ?_
  intro G eD eY eL E
  subst eD; subst eY; subst eL
  have E : jE G cX5_vowsAgainst RX5 w_X5_vowsAgainst 2 (some .boolean) { frames := 0, cells := 0, slots := 0, locals := 0 } (rtZ Z Q) := E
  show jJ G 2 0 [(0, .ref v0), (1, .int v1)] [] Z I L 0 0
  refine j_aload_n E dX5_vowsAgainst_0 0 rfl ?_
  refine j_geti E 5 4 rfl rfl (by decide) (by decide) (iw iT_5) rfl rfl (tw W_249) kv0 dX5_vowsAgainst_1 ?_
  refine j_iload_n E dX5_vowsAgainst_4 1 rfl ?_
  refine j_ishr E dX5_vowsAgainst_5 ?_
  refine j_iconst E (v := 1) dX5_vowsAgainst_6 (by decide) ?_
  refine j_iand E dX5_vowsAgainst_7 ?_
  refine j_if_eq E 15 dX5_vowsAgainst_8 (by decide) (fun c1 => ?_) (fun c1 => ?_)
  · have h := h.1 c1
    refine j_iconst E (v := 0) dX5_vowsAgainst_15 (by decide) ?_
    exact j_zreturn E (Or.inl rfl) ⟨rfl, _, rfl, (Or.inl rfl), h⟩ (Nat.zero_le _) (Nat.zero_le _) dX5_vowsAgainst_16
  · have h := h.2 c1
    refine j_iconst E (v := 1) dX5_vowsAgainst_11 (by decide) ?_
    refine j_goto E 16 dX5_vowsAgainst_12 (by decide) ?_
    exact j_zreturn E (Or.inr rfl) ⟨rfl, _, rfl, (Or.inr rfl), h⟩ (Nat.zero_le _) (Nat.zero_le _) dX5_vowsAgainst_16
set_option maxRecDepth 100000 in
def f_X8_has (v0 : Nat) (v1 : Int32) (Z : jZ) (I : jI) (L : jL) (Q : Int32 → jI → jL → Prop) : Prop := ((v1 < 0 → Q (0 : Int32) I L) ∧ (¬ (v1 < 0) → (((I v0 9) ≤ v1 → Q (0 : Int32) I L) ∧ (¬ ((I v0 9) ≤ v1) → (((24 : Int32) ≤ v1 → Q (0 : Int32) I L) ∧ (¬ ((24 : Int32) ≤ v1) → Q (1 : Int32) I L))))))
set_option maxHeartbeats 4000000 in
set_option maxRecDepth 100000 in
theorem c_X8_has (l : Launch) (D : va_G) (cy : jC) (v0 : Nat) (v1 : Int32) (Z : jZ) (I : jI) (L : jL) (Q : Int32 → jI → jL → Prop) (hZ : SH Z) (kv0 : jk Z v0 8) (h : f_X8_has v0 v1 Z I L Q) : jCt l yX8_has w_X8_has { frames := 0, cells := 0, slots := 0, locals := 0 } D cy [.ref v0, .int v1] Z I L (rtZ Z Q) := by
  refine jCt_of (cc := cX8_has) (maxL := 2) (ret := (some .boolean)) (by decide +kernel) rfl (Nat.le_of_ble_eq_true rfl) ?_
  intro G eD eY eL E
  subst eD; subst eY; subst eL
  have E : jE G cX8_has RX8 w_X8_has 2 (some .boolean) { frames := 0, cells := 0, slots := 0, locals := 0 } (rtZ Z Q) := E
  show jJ G 2 0 [(0, .ref v0), (1, .int v1)] [] Z I L 0 0
  refine j_iload_n E dX8_has_0 1 rfl ?_
  refine j_if_lt E 22 dX8_has_1 (by decide) (fun c1 => ?_) (fun c1 => ?_)
  · have h := h.1 c1
    refine j_iconst E (v := 0) dX8_has_22 (by decide) ?_
    exact j_zreturn E (Or.inl rfl) ⟨rfl, _, rfl, (Or.inl rfl), h⟩ (Nat.zero_le _) (Nat.zero_le _) dX8_has_23
  · have h := h.2 c1
    refine j_iload_n E dX8_has_4 1 rfl ?_
    refine j_aload_n E dX8_has_5 0 rfl ?_
    refine j_geti E 8 9 rfl rfl (by decide) (by decide) (iw iT_8) rfl rfl (tw W_250) kv0 dX8_has_6 ?_
    refine j_icmp_ge E 22 dX8_has_9 (by decide) (fun c2 => ?_) (fun c2 => ?_)
    · have h := h.1 c2
      refine j_iconst E (v := 0) dX8_has_22 (by decide) ?_
      exact j_zreturn E (Or.inl rfl) ⟨rfl, _, rfl, (Or.inl rfl), h⟩ (Nat.zero_le _) (Nat.zero_le _) dX8_has_23
    · have h := h.2 c2
      refine j_iload_n E dX8_has_12 1 rfl ?_
      refine j_bipush E (v := 24) dX8_has_13 (by decide) ?_
      refine j_icmp_ge E 22 dX8_has_15 (by decide) (fun c3 => ?_) (fun c3 => ?_)
      · have h := h.1 c3
        refine j_iconst E (v := 0) dX8_has_22 (by decide) ?_
        exact j_zreturn E (Or.inl rfl) ⟨rfl, _, rfl, (Or.inl rfl), h⟩ (Nat.zero_le _) (Nat.zero_le _) dX8_has_23
      · have h := h.2 c3
        refine j_iconst E (v := 1) dX8_has_18 (by decide) ?_
        refine j_goto E 23 dX8_has_19 (by decide) ?_
        exact j_zreturn E (Or.inr rfl) ⟨rfl, _, rfl, (Or.inr rfl), h⟩ (Nat.zero_le _) (Nat.zero_le _) dX8_has_23
set_option maxRecDepth 100000 in
def f_X8_inFeud (v0 : Nat) (v1 : Int32) (v2 : Int32) (Z : jZ) (I : jI) (L : jL) (Q : Int32 → jI → jL → Prop) : Prop := ((v1 < 0 → Q (0 : Int32) I L) ∧ (¬ (v1 < 0) → (((8 : Int32) ≤ v1 → Q (0 : Int32) I L) ∧ (¬ ((8 : Int32) ≤ v1) → (∀ b3 : Nat, jr Z v0 5 = some b3 → (vp_in v1 8 ∧ (((((I b3 v1.toNatClampNeg) >>> (v2 &&& 31)) &&& (1 : Int32)) = 0 → Q (0 : Int32) I L) ∧ (¬ ((((I b3 v1.toNatClampNeg) >>> (v2 &&& 31)) &&& (1 : Int32)) = 0) → Q (1 : Int32) I L))))))))
set_option maxHeartbeats 4000000 in
set_option maxRecDepth 100000 in
theorem c_X8_inFeud (l : Launch) (D : va_G) (cy : jC) (v0 : Nat) (v1 : Int32) (v2 : Int32) (Z : jZ) (I : jI) (L : jL) (Q : Int32 → jI → jL → Prop) (hZ : SH Z) (kv0 : jk Z v0 8) (h : f_X8_inFeud v0 v1 v2 Z I L Q) : jCt l yX8_inFeud w_X8_inFeud { frames := 0, cells := 0, slots := 0, locals := 0 } D cy [.ref v0, .int v1, .int v2] Z I L (rtZ Z Q) := by
  refine jCt_of (cc := cX8_inFeud) (maxL := 3) (ret := (some .boolean)) (by decide +kernel) rfl (Nat.le_of_ble_eq_true rfl) ?_
  intro G eD eY eL E
  subst eD; subst eY; subst eL
  have E : jE G cX8_inFeud RX8 w_X8_inFeud 3 (some .boolean) { frames := 0, cells := 0, slots := 0, locals := 0 } (rtZ Z Q) := E
  show jJ G 3 0 [(0, .ref v0), (1, .int v1), (2, .int v2)] [] Z I L 0 0
  refine j_iload_n E dX8_inFeud_0 1 rfl ?_
  refine j_if_lt E 27 dX8_inFeud_1 (by decide) (fun c1 => ?_) (fun c1 => ?_)
  · have h := h.1 c1
    refine j_iconst E (v := 0) dX8_inFeud_27 (by decide) ?_
    exact j_zreturn E (Or.inl rfl) ⟨rfl, _, rfl, (Or.inl rfl), h⟩ (Nat.zero_le _) (Nat.zero_le _) dX8_inFeud_28
  · have h := h.2 c1
    refine j_iload_n E dX8_inFeud_4 1 rfl ?_
    refine j_bipush E (v := 8) dX8_inFeud_5 (by decide) ?_
    refine j_icmp_ge E 27 dX8_inFeud_7 (by decide) (fun c2 => ?_) (fun c2 => ?_)
    · have h := h.1 c2
      refine j_iconst E (v := 0) dX8_inFeud_27 (by decide) ?_
      exact j_zreturn E (Or.inl rfl) ⟨rfl, _, rfl, (Or.inl rfl), h⟩ (Nat.zero_le _) (Nat.zero_le _) dX8_inFeud_28
    · have h := h.2 c2
      refine j_aload_n E dX8_inFeud_10 0 rfl ?_
      obtain ⟨b3, eb3, kb3, lb3⟩ := sh_f hZ kv0 (j := 5) (k := 14) (m := 8) rfl
      have h := h b3 eb3
      refine j_getr E 8 5 rfl rfl (by decide) (by decide) (iw iT_8) rfl rfl (tw W_251) kv0 eb3 dX8_inFeud_11 ?_
      refine j_iload_n E dX8_inFeud_14 1 rfl ?_
      obtain ⟨o4, h⟩ := h
      refine j_iald E kb3 (by rw [lb3]; exact o4) dX8_inFeud_15 ?_
      refine j_iload_n E dX8_inFeud_16 2 rfl ?_
      refine j_ishr E dX8_inFeud_17 ?_
      refine j_iconst E (v := 1) dX8_inFeud_18 (by decide) ?_
      refine j_iand E dX8_inFeud_19 ?_
      refine j_if_eq E 27 dX8_inFeud_20 (by decide) (fun c5 => ?_) (fun c5 => ?_)
      · have h := h.1 c5
        refine j_iconst E (v := 0) dX8_inFeud_27 (by decide) ?_
        exact j_zreturn E (Or.inl rfl) ⟨rfl, _, rfl, (Or.inl rfl), h⟩ (Nat.zero_le _) (Nat.zero_le _) dX8_inFeud_28
      · have h := h.2 c5
        refine j_iconst E (v := 1) dX8_inFeud_23 (by decide) ?_
        refine j_goto E 28 dX8_inFeud_24 (by decide) ?_
        exact j_zreturn E (Or.inr rfl) ⟨rfl, _, rfl, (Or.inr rfl), h⟩ (Nat.zero_le _) (Nat.zero_le _) dX8_inFeud_28
set_option maxRecDepth 100000 in
def f_X8_putLetters_b98  (Z : jZ) (Q : jI → jL → Prop) (v0 : Nat) (v3 : Int32) (v4 : Int32) (s0 : Nat) (s1 : Int32) (s2 : Int32) (I : jI) (L : jL) : Prop := (vp_in s1 (jlen Z s0) ∧ (∀ I2 : jI, I2 = jpI I s0 s1.toNatClampNeg s2 → (∀ b3 : Nat, jr Z v0 8 = some b3 → (∀ I4 : jI, I4 = jpI I2 b3 (5 : Int32).toNatClampNeg v4 → (∀ b5 : Nat, jr Z v0 8 = some b5 → (∀ I6 : jI, I6 = jpI I4 b5 (6 : Int32).toNatClampNeg v3 → Q I6 L))))))
set_option maxHeartbeats 4000000 in
set_option maxRecDepth 100000 in
theorem m_X8_putLetters_b98 {G : jG} {Z : jZ} {Q : jI → jL → Prop} (E : jE G cX8_putLetters RX8 w_X8_putLetters 5 none { frames := 1, cells := 0, slots := 0, locals := 22 } (rtV Z Q)) (hZ : SH Z)  (v0 : Nat) (v3 : Int32) (v4 : Int32) (s0 : Nat) (s1 : Int32) (s2 : Int32) (I : jI) (L : jL) (kv0 : jk Z v0 8) (ks0 : jk Z s0 14) (h : f_X8_putLetters_b98  Z Q v0 v3 v4 s0 s1 s2 I L) : jJ G 5 98 [(0, .ref v0), (3, .int v3), (4, .int v4)] [.int s2, .int s1, .ref s0] Z I L 0 0 := by
  obtain ⟨o1, h⟩ := h
  refine j_iast E ks0 o1 dX8_putLetters_98 ?_
  refine j_nmI (fun I2 eI2 => ?_)
  have h := h I2 eI2
  refine j_aload_n E dX8_putLetters_99 0 rfl ?_
  obtain ⟨b3, eb3, kb3, lb3⟩ := sh_f hZ kv0 (j := 8) (k := 14) (m := 7) rfl
  have h := h b3 eb3
  refine j_getr E 8 8 rfl rfl (by decide) (by decide) (iw iT_8) rfl rfl (tw W_252) kv0 eb3 dX8_putLetters_100 ?_
  refine j_iconst E (v := 5) dX8_putLetters_103 (by decide) ?_
  refine j_iload E dX8_putLetters_104 2 rfl ?_
  refine j_iast E kb3 (by rw [lb3]; exact vp_in_lit (by decide)) dX8_putLetters_106 ?_
  refine j_nmI (fun I4 eI4 => ?_)
  have h := h I4 eI4
  refine j_aload_n E dX8_putLetters_107 0 rfl ?_
  obtain ⟨b5, eb5, kb5, lb5⟩ := sh_f hZ kv0 (j := 8) (k := 14) (m := 7) rfl
  have h := h b5 eb5
  refine j_getr E 8 8 rfl rfl (by decide) (by decide) (iw iT_8) rfl rfl (tw W_252) kv0 eb5 dX8_putLetters_108 ?_
  refine j_bipush E (v := 6) dX8_putLetters_111 (by decide) ?_
  refine j_iload_n E dX8_putLetters_113 1 rfl ?_
  refine j_iast E kb5 (by rw [lb5]; exact vp_in_lit (by decide)) dX8_putLetters_114 ?_
  refine j_nmI (fun I6 eI6 => ?_)
  have h := h I6 eI6
  exact j_return E ⟨rfl, rfl, h⟩ (Nat.zero_le _) (Nat.zero_le _) dX8_putLetters_115
set_option maxRecDepth 100000 in
def f_X8_putLetters_b97  (Z : jZ) (Q : jI → jL → Prop) (v0 : Nat) (v3 : Int32) (v4 : Int32) (s0 : Nat) (s1 : Int32) (I : jI) (L : jL) : Prop := f_X8_putLetters_b98  Z Q v0 v3 v4 s0 s1 (0 : Int32) I L
set_option maxHeartbeats 4000000 in
set_option maxRecDepth 100000 in
theorem m_X8_putLetters_b97 {G : jG} {Z : jZ} {Q : jI → jL → Prop} (E : jE G cX8_putLetters RX8 w_X8_putLetters 5 none { frames := 1, cells := 0, slots := 0, locals := 22 } (rtV Z Q)) (hZ : SH Z)  (v0 : Nat) (v3 : Int32) (v4 : Int32) (s0 : Nat) (s1 : Int32) (I : jI) (L : jL) (kv0 : jk Z v0 8) (ks0 : jk Z s0 14) (h : f_X8_putLetters_b97  Z Q v0 v3 v4 s0 s1 I L) : jJ G 5 97 [(0, .ref v0), (3, .int v3), (4, .int v4)] [.int s1, .ref s0] Z I L 0 0 := by
  refine j_iconst E (v := 0) dX8_putLetters_97 (by decide) ?_
  refine j_sub [0, 1, 2] rfl ?_
  exact m_X8_putLetters_b98 E hZ  v0 v3 v4 s0 s1 (0 : Int32) I L kv0 ks0 h
set_option maxRecDepth 100000 in
def f_X8_putLetters (v0 : Nat) (v1 : Int32) (v2 : Int32) (v3 : Int32) (v4 : Int32) (Z : jZ) (I : jI) (L : jL) (Q : jI → jL → Prop) : Prop := (f_X8_has v0 v1 Z I L (fun r13 I9 L10 => ((¬ r13 = 0 → (∀ b15 : Nat, jr Z v0 8 = some b15 → (∀ b16 : Nat, jr Z v0 2 = some b16 → (vp_in v1 24 ∧ (∀ I18 : jI, I18 = jpI I9 b15 (0 : Int32).toNatClampNeg (I9 b16 v1.toNatClampNeg) → (∀ b19 : Nat, jr Z v0 8 = some b19 → (∀ b20 : Nat, jr Z v0 0 = some b20 → (vp_in v1 24 ∧ (∀ I22 : jI, I22 = jpI I18 b19 (1 : Int32).toNatClampNeg (I18 b20 v1.toNatClampNeg) → (∀ b23 : Nat, jr Z v0 8 = some b23 → (∀ b24 : Nat, jr Z v0 1 = some b24 → (vp_in v1 24 ∧ (∀ I26 : jI, I26 = jpI I22 b23 (2 : Int32).toNatClampNeg (I22 b24 v1.toNatClampNeg) → (∀ b27 : Nat, jr Z v0 8 = some b27 → (∀ b28 : Nat, jr Z v0 3 = some b28 → (vp_in v1 24 ∧ (∀ I30 : jI, I30 = jpI I26 b27 (3 : Int32).toNatClampNeg (I26 b28 v1.toNatClampNeg) → (∀ b31 : Nat, jr Z v0 8 = some b31 → (f_X8_has v0 v2 Z I30 L10 (fun r38 I34 L35 => ((r38 = 0 → f_X8_putLetters_b97  Z Q v0 v3 v4 b31 (4 : Int32) I34 L35) ∧ (¬ (r38 = 0) → (∀ b40 : Nat, jr Z v0 4 = some b40 → (f_X4_mainOf b40 v1 Z I34 L35 (fun r47 I43 L44 => (∀ b48 : Nat, jr Z v0 4 = some b48 → (f_X4_mainOf b48 v2 Z I43 L44 (fun r55 I51 L52 => (f_X8_inFeud v0 r47 r55 Z I51 L52 (fun r62 I58 L59 => ((r62 = 0 → f_X8_putLetters_b97  Z Q v0 v3 v4 b31 (4 : Int32) I58 L59) ∧ (¬ (r62 = 0) → f_X8_putLetters_b98  Z Q v0 v3 v4 b31 (4 : Int32) (1 : Int32) I58 L59)))))))))))))))))))))))))))))))) ∧ (r13 = 0 → Q I9 L10))))
set_option maxHeartbeats 4000000 in
set_option maxRecDepth 100000 in
theorem c_X8_putLetters (l : Launch) (D : va_G) (cy : jC) (v0 : Nat) (v1 : Int32) (v2 : Int32) (v3 : Int32) (v4 : Int32) (Z : jZ) (I : jI) (L : jL) (Q : jI → jL → Prop) (hZ : SH Z) (kv0 : jk Z v0 8) (h : f_X8_putLetters v0 v1 v2 v3 v4 Z I L Q) : jCt l yX8_putLetters w_X8_putLetters { frames := 1, cells := 0, slots := 0, locals := 22 } D cy [.ref v0, .int v1, .int v2, .int v3, .int v4] Z I L (rtV Z Q) := by
  refine jCt_of (cc := cX8_putLetters) (maxL := 5) (ret := none) (by decide +kernel) rfl (Nat.le_of_ble_eq_true rfl) ?_
  intro G eD eY eL E
  subst eD; subst eY; subst eL
  have E : jE G cX8_putLetters RX8 w_X8_putLetters 5 none { frames := 1, cells := 0, slots := 0, locals := 22 } (rtV Z Q) := E
  show jJ G 5 0 [(0, .ref v0), (1, .int v1), (2, .int v2), (3, .int v3), (4, .int v4)] [] Z I L 0 0
  refine j_aload_n E dX8_putLetters_0 0 rfl ?_
  refine j_iload_n E dX8_putLetters_1 1 rfl ?_
  refine j_callV E [.int v1] [] (c_X8_has (gL G) (gD G) (gY G) v0 v1 Z I L _ hZ kv0 h) (gwV W_255 W_256 W_257 W_254 W_253) rfl ⟨rfl, fy_X8_has⟩ ⟨by decide, by decide⟩ (c := 8) rfl (by decide) kv0 rfl rfl (Nat.le_of_ble_eq_true rfl) ⟨Nat.zero_le _, Nat.zero_le _⟩ dX8_putLetters_2 (fun v7 Z8 I9 L10 q11 => ?_)
  obtain ⟨rfl, r13, rfl, zr13, h⟩ := q11
  show jJ G 5 5 [(0, .ref v0), (1, .int v1), (2, .int v2), (3, .int v3), (4, .int v4)] [.int r13] Z I9 L10 0 0
  refine j_if_ne E 9 dX8_putLetters_5 (by decide) (fun c14 => ?_) (fun c14 => ?_)
  · have h := h.1 c14
    refine j_aload_n E dX8_putLetters_9 0 rfl ?_
    obtain ⟨b15, eb15, kb15, lb15⟩ := sh_f hZ kv0 (j := 8) (k := 14) (m := 7) rfl
    have h := h b15 eb15
    refine j_getr E 8 8 rfl rfl (by decide) (by decide) (iw iT_8) rfl rfl (tw W_252) kv0 eb15 dX8_putLetters_10 ?_
    refine j_iconst E (v := 0) dX8_putLetters_13 (by decide) ?_
    refine j_aload_n E dX8_putLetters_14 0 rfl ?_
    obtain ⟨b16, eb16, kb16, lb16⟩ := sh_f hZ kv0 (j := 2) (k := 14) (m := 24) rfl
    have h := h b16 eb16
    refine j_getr E 8 2 rfl rfl (by decide) (by decide) (iw iT_8) rfl rfl (tw W_258) kv0 eb16 dX8_putLetters_15 ?_
    refine j_iload_n E dX8_putLetters_18 1 rfl ?_
    obtain ⟨o17, h⟩ := h
    refine j_iald E kb16 (by rw [lb16]; exact o17) dX8_putLetters_19 ?_
    refine j_iast E kb15 (by rw [lb15]; exact vp_in_lit (by decide)) dX8_putLetters_20 ?_
    refine j_nmI (fun I18 eI18 => ?_)
    have h := h I18 eI18
    refine j_aload_n E dX8_putLetters_21 0 rfl ?_
    obtain ⟨b19, eb19, kb19, lb19⟩ := sh_f hZ kv0 (j := 8) (k := 14) (m := 7) rfl
    have h := h b19 eb19
    refine j_getr E 8 8 rfl rfl (by decide) (by decide) (iw iT_8) rfl rfl (tw W_252) kv0 eb19 dX8_putLetters_22 ?_
    refine j_iconst E (v := 1) dX8_putLetters_25 (by decide) ?_
    refine j_aload_n E dX8_putLetters_26 0 rfl ?_
    obtain ⟨b20, eb20, kb20, lb20⟩ := sh_f hZ kv0 (j := 0) (k := 14) (m := 24) rfl
    have h := h b20 eb20
    refine j_getr E 8 0 rfl rfl (by decide) (by decide) (iw iT_8) rfl rfl (tw W_259) kv0 eb20 dX8_putLetters_27 ?_
    refine j_iload_n E dX8_putLetters_30 1 rfl ?_
    obtain ⟨o21, h⟩ := h
    refine j_iald E kb20 (by rw [lb20]; exact o21) dX8_putLetters_31 ?_
    refine j_iast E kb19 (by rw [lb19]; exact vp_in_lit (by decide)) dX8_putLetters_32 ?_
    refine j_nmI (fun I22 eI22 => ?_)
    have h := h I22 eI22
    refine j_aload_n E dX8_putLetters_33 0 rfl ?_
    obtain ⟨b23, eb23, kb23, lb23⟩ := sh_f hZ kv0 (j := 8) (k := 14) (m := 7) rfl
    have h := h b23 eb23
    refine j_getr E 8 8 rfl rfl (by decide) (by decide) (iw iT_8) rfl rfl (tw W_252) kv0 eb23 dX8_putLetters_34 ?_
    refine j_iconst E (v := 2) dX8_putLetters_37 (by decide) ?_
    refine j_aload_n E dX8_putLetters_38 0 rfl ?_
    obtain ⟨b24, eb24, kb24, lb24⟩ := sh_f hZ kv0 (j := 1) (k := 14) (m := 24) rfl
    have h := h b24 eb24
    refine j_getr E 8 1 rfl rfl (by decide) (by decide) (iw iT_8) rfl rfl (tw W_260) kv0 eb24 dX8_putLetters_39 ?_
    refine j_iload_n E dX8_putLetters_42 1 rfl ?_
    obtain ⟨o25, h⟩ := h
    refine j_iald E kb24 (by rw [lb24]; exact o25) dX8_putLetters_43 ?_
    refine j_iast E kb23 (by rw [lb23]; exact vp_in_lit (by decide)) dX8_putLetters_44 ?_
    refine j_nmI (fun I26 eI26 => ?_)
    have h := h I26 eI26
    refine j_aload_n E dX8_putLetters_45 0 rfl ?_
    obtain ⟨b27, eb27, kb27, lb27⟩ := sh_f hZ kv0 (j := 8) (k := 14) (m := 7) rfl
    have h := h b27 eb27
    refine j_getr E 8 8 rfl rfl (by decide) (by decide) (iw iT_8) rfl rfl (tw W_252) kv0 eb27 dX8_putLetters_46 ?_
    refine j_iconst E (v := 3) dX8_putLetters_49 (by decide) ?_
    refine j_aload_n E dX8_putLetters_50 0 rfl ?_
    obtain ⟨b28, eb28, kb28, lb28⟩ := sh_f hZ kv0 (j := 3) (k := 14) (m := 24) rfl
    have h := h b28 eb28
    refine j_getr E 8 3 rfl rfl (by decide) (by decide) (iw iT_8) rfl rfl (tw W_261) kv0 eb28 dX8_putLetters_51 ?_
    refine j_iload_n E dX8_putLetters_54 1 rfl ?_
    obtain ⟨o29, h⟩ := h
    refine j_iald E kb28 (by rw [lb28]; exact o29) dX8_putLetters_55 ?_
    refine j_iast E kb27 (by rw [lb27]; exact vp_in_lit (by decide)) dX8_putLetters_56 ?_
    refine j_nmI (fun I30 eI30 => ?_)
    have h := h I30 eI30
    refine j_aload_n E dX8_putLetters_57 0 rfl ?_
    obtain ⟨b31, eb31, kb31, lb31⟩ := sh_f hZ kv0 (j := 8) (k := 14) (m := 7) rfl
    have h := h b31 eb31
    refine j_getr E 8 8 rfl rfl (by decide) (by decide) (iw iT_8) rfl rfl (tw W_252) kv0 eb31 dX8_putLetters_58 ?_
    refine j_iconst E (v := 4) dX8_putLetters_61 (by decide) ?_
    refine j_aload_n E dX8_putLetters_62 0 rfl ?_
    refine j_iload_n E dX8_putLetters_63 2 rfl ?_
    refine j_callV E [.int v2] [.int (4 : Int32), .ref b31] (c_X8_has (gL G) (gD G) (gY G) v0 v2 Z I30 L10 _ hZ kv0 h) (gwV W_255 W_256 W_257 W_254 W_253) rfl ⟨rfl, fy_X8_has⟩ ⟨by decide, by decide⟩ (c := 8) rfl (by decide) kv0 rfl rfl (Nat.le_of_ble_eq_true rfl) ⟨Nat.zero_le _, Nat.zero_le _⟩ dX8_putLetters_64 (fun v32 Z33 I34 L35 q36 => ?_)
    obtain ⟨rfl, r38, rfl, zr38, h⟩ := q36
    show jJ G 5 67 [(0, .ref v0), (1, .int v1), (2, .int v2), (3, .int v3), (4, .int v4)] [.int r38, .int (4 : Int32), .ref b31] Z I34 L35 0 0
    refine j_if_eq E 97 dX8_putLetters_67 (by decide) (fun c39 => ?_) (fun c39 => ?_)
    · have h := h.1 c39
      refine j_sub [0, 3, 4] rfl ?_
      exact m_X8_putLetters_b97 E hZ  v0 v3 v4 b31 (4 : Int32) I34 L35 kv0 kb31 h
    · have h := h.2 c39
      refine j_aload_n E dX8_putLetters_70 0 rfl ?_
      refine j_aload_n E dX8_putLetters_71 0 rfl ?_
      obtain ⟨b40, eb40, kb40⟩ := sh_o hZ kv0 (j := 4) (k := 4) rfl
      have h := h b40 eb40
      refine j_getr E 8 4 rfl rfl (by decide) (by decide) (iw iT_8) rfl rfl (tw W_262) kv0 eb40 dX8_putLetters_72 ?_
      refine j_iload_n E dX8_putLetters_75 1 rfl ?_
      refine j_callV E [.int v1] [.ref v0, .int (4 : Int32), .ref b31] (c_X4_mainOf (gL G) (gD G) (gY G) b40 v1 Z I34 L35 _ hZ kb40 h) (gwV W_264 W_265 W_266 W_160 W_263) rfl ⟨rfl, fy_X4_mainOf⟩ ⟨by decide, by decide⟩ (c := 4) rfl (by decide) kb40 rfl rfl (Nat.le_of_ble_eq_true rfl) ⟨Nat.zero_le _, Nat.zero_le _⟩ dX8_putLetters_76 (fun v41 Z42 I43 L44 q45 => ?_)
      obtain ⟨rfl, r47, rfl, h⟩ := q45
      show jJ G 5 79 [(0, .ref v0), (1, .int v1), (2, .int v2), (3, .int v3), (4, .int v4)] [.int r47, .ref v0, .int (4 : Int32), .ref b31] Z I43 L44 0 0
      refine j_aload_n E dX8_putLetters_79 0 rfl ?_
      obtain ⟨b48, eb48, kb48⟩ := sh_o hZ kv0 (j := 4) (k := 4) rfl
      have h := h b48 eb48
      refine j_getr E 8 4 rfl rfl (by decide) (by decide) (iw iT_8) rfl rfl (tw W_262) kv0 eb48 dX8_putLetters_80 ?_
      refine j_iload_n E dX8_putLetters_83 2 rfl ?_
      refine j_callV E [.int v2] [.int r47, .ref v0, .int (4 : Int32), .ref b31] (c_X4_mainOf (gL G) (gD G) (gY G) b48 v2 Z I43 L44 _ hZ kb48 h) (gwV W_264 W_265 W_266 W_160 W_263) rfl ⟨rfl, fy_X4_mainOf⟩ ⟨by decide, by decide⟩ (c := 4) rfl (by decide) kb48 rfl rfl (Nat.le_of_ble_eq_true rfl) ⟨Nat.zero_le _, Nat.zero_le _⟩ dX8_putLetters_84 (fun v49 Z50 I51 L52 q53 => ?_)
      obtain ⟨rfl, r55, rfl, h⟩ := q53
      show jJ G 5 87 [(0, .ref v0), (1, .int v1), (2, .int v2), (3, .int v3), (4, .int v4)] [.int r55, .int r47, .ref v0, .int (4 : Int32), .ref b31] Z I51 L52 0 0
      refine j_callV E [.int r47, .int r55] [.int (4 : Int32), .ref b31] (c_X8_inFeud (gL G) (gD G) (gY G) v0 r47 r55 Z I51 L52 _ hZ kv0 h) (gwV W_268 W_269 W_270 W_254 W_267) rfl ⟨rfl, fy_X8_inFeud⟩ ⟨by decide, by decide⟩ (c := 8) rfl (by decide) kv0 rfl rfl (Nat.le_of_ble_eq_true rfl) ⟨Nat.zero_le _, Nat.zero_le _⟩ dX8_putLetters_87 (fun v56 Z57 I58 L59 q60 => ?_)
      obtain ⟨rfl, r62, rfl, zr62, h⟩ := q60
      show jJ G 5 90 [(0, .ref v0), (1, .int v1), (2, .int v2), (3, .int v3), (4, .int v4)] [.int r62, .int (4 : Int32), .ref b31] Z I58 L59 0 0
      refine j_if_eq E 97 dX8_putLetters_90 (by decide) (fun c63 => ?_) (fun c63 => ?_)
      · have h := h.1 c63
        refine j_sub [0, 3, 4] rfl ?_
        exact m_X8_putLetters_b97 E hZ  v0 v3 v4 b31 (4 : Int32) I58 L59 kv0 kb31 h
      · have h := h.2 c63
        refine j_iconst E (v := 1) dX8_putLetters_93 (by decide) ?_
        refine j_goto E 98 dX8_putLetters_94 (by decide) ?_
        refine j_sub [0, 3, 4] rfl ?_
        exact m_X8_putLetters_b98 E hZ  v0 v3 v4 b31 (4 : Int32) (1 : Int32) I58 L59 kv0 kb31 h
  · have h := h.2 c14
    exact j_return E ⟨rfl, rfl, h⟩ (Nat.zero_le _) (Nat.zero_le _) dX8_putLetters_8
set_option maxRecDepth 100000 in
def f_X8_priceOf_b15  (Z : jZ) (Q : Int32 → jI → jL → Prop) (v0 : Nat) (v1 : Int32) (v2 : Int32) (v3 : Int32) (v4 : Int32) (v5 : Int32) (s0 : Nat) (I : jI) (L : jL) : Prop := (f_X8_has v0 v2 Z I L (fun r7 I3 L4 => ((¬ r7 = 0 → (f_X3_isTold s0 Z I3 L4 (fun r15 I11 L12 => ((¬ r15 = 0 → (f_X8_putLetters v0 v2 v3 v4 v5 Z I11 L12 (fun I19 L20 => (∀ b23 : Nat, jr Z v0 8 = some b23 → (f_X3_priceFor s0 b23 Z I19 L20 (fun r30 I26 L27 => Q r30 I26 L27)))))) ∧ (r15 = 0 → ((¬ v1 = 0 → Q (0 : Int32) I11 L12) ∧ (v1 = 0 → (∀ b32 : Nat, jr Z v0 3 = some b32 → (vp_in v2 24 ∧ ((¬ (I11 b32 v2.toNatClampNeg) = 0 → Q (0 : Int32) I11 L12) ∧ ((I11 b32 v2.toNatClampNeg) = 0 → (∀ b35 : Nat, jr Z v0 2 = some b35 → (vp_in v2 24 ∧ Q (I11 b35 v2.toNatClampNeg) I11 L12))))))))))))) ∧ (r7 = 0 → Q (0 : Int32) I3 L4))))
set_option maxHeartbeats 4000000 in
set_option maxRecDepth 100000 in
theorem m_X8_priceOf_b15 {G : jG} {Z : jZ} {Q : Int32 → jI → jL → Prop} (E : jE G cX8_priceOf RX8 w_X8_priceOf 7 (some .int) { frames := 2, cells := 0, slots := 0, locals := 48 } (rtI Z Q)) (hZ : SH Z)  (v0 : Nat) (v1 : Int32) (v2 : Int32) (v3 : Int32) (v4 : Int32) (v5 : Int32) (s0 : Nat) (I : jI) (L : jL) (kv0 : jk Z v0 8) (ks0 : jk Z s0 3) (h : f_X8_priceOf_b15  Z Q v0 v1 v2 v3 v4 v5 s0 I L) : jJ G 7 15 [(0, .ref v0), (1, .int v1), (2, .int v2), (3, .int v3), (4, .int v4), (5, .int v5)] [.ref s0] Z I L 0 0 := by
  refine j_astore E 6 [(6, .ref s0), (0, .ref v0), (1, .int v1), (2, .int v2), (3, .int v3), (4, .int v4), (5, .int v5)] dX8_priceOf_15 (by decide) rfl ?_
  refine j_aload_n E dX8_priceOf_17 1 rfl ?_
  refine j_iload_n E dX8_priceOf_18 3 rfl ?_
  refine j_callV E [.int v2] [] (c_X8_has (gL G) (gD G) (gY G) v0 v2 Z I L _ hZ kv0 h) (gwV W_255 W_256 W_257 W_254 W_253) rfl ⟨rfl, fy_X8_has⟩ ⟨by decide, by decide⟩ (c := 8) rfl (by decide) kv0 rfl rfl (Nat.le_of_ble_eq_true rfl) ⟨Nat.zero_le _, Nat.zero_le _⟩ dX8_priceOf_19 (fun v1 Z2 I3 L4 q5 => ?_)
  obtain ⟨rfl, r7, rfl, zr7, h⟩ := q5
  show jJ G 7 22 [(6, .ref s0), (0, .ref v0), (1, .int v1), (2, .int v2), (3, .int v3), (4, .int v4), (5, .int v5)] [.int r7] Z I3 L4 0 0
  refine j_if_ne E 27 dX8_priceOf_22 (by decide) (fun c8 => ?_) (fun c8 => ?_)
  · have h := h.1 c8
    refine j_aload E dX8_priceOf_27 0 rfl ?_
    refine j_callV E [] [] (c_X3_isTold (gL G) (gD G) (gY G) s0 Z I3 L4 _ hZ ks0 h) (gwV W_271 W_181 W_182 W_179 W_178) rfl ⟨rfl, fy_X3_isTold⟩ ⟨by decide, by decide⟩ (c := 3) rfl (by decide) ks0 rfl rfl (Nat.le_of_ble_eq_true rfl) ⟨Nat.zero_le _, Nat.zero_le _⟩ dX8_priceOf_29 (fun v9 Z10 I11 L12 q13 => ?_)
    obtain ⟨rfl, r15, rfl, zr15, h⟩ := q13
    show jJ G 7 32 [(6, .ref s0), (0, .ref v0), (1, .int v1), (2, .int v2), (3, .int v3), (4, .int v4), (5, .int v5)] [.int r15] Z I11 L12 0 0
    refine j_if_ne E 59 dX8_priceOf_32 (by decide) (fun c16 => ?_) (fun c16 => ?_)
    · have h := h.1 c16
      refine j_aload_n E dX8_priceOf_59 1 rfl ?_
      refine j_iload_n E dX8_priceOf_60 3 rfl ?_
      refine j_iload_n E dX8_priceOf_61 4 rfl ?_
      refine j_iload E dX8_priceOf_62 5 rfl ?_
      refine j_iload E dX8_priceOf_64 6 rfl ?_
      refine j_callV E [.int v2, .int v3, .int v4, .int v5] [] (c_X8_putLetters (gL G) (gD G) (gY G) v0 v2 v3 v4 v5 Z I11 L12 _ hZ kv0 h) (gwV W_273 W_274 W_275 W_254 W_272) rfl ⟨rfl, fy_X8_putLetters⟩ ⟨by decide, by decide⟩ (c := 8) rfl (by decide) kv0 rfl rfl (Nat.le_of_ble_eq_true rfl) ⟨Nat.zero_le _, Nat.zero_le _⟩ dX8_priceOf_66 (fun v17 Z18 I19 L20 q21 => ?_)
      obtain ⟨rfl, rfl, h⟩ := q21
      show jJ G 7 69 [(6, .ref s0), (0, .ref v0), (1, .int v1), (2, .int v2), (3, .int v3), (4, .int v4), (5, .int v5)] [] Z I19 L20 0 0
      refine j_aload E dX8_priceOf_69 0 rfl ?_
      refine j_aload_n E dX8_priceOf_71 1 rfl ?_
      obtain ⟨b23, eb23, kb23, lb23⟩ := sh_f hZ kv0 (j := 8) (k := 14) (m := 7) rfl
      have h := h b23 eb23
      refine j_getr E 8 8 rfl rfl (by decide) (by decide) (iw iT_8) rfl rfl (tw W_252) kv0 eb23 dX8_priceOf_72 ?_
      refine j_callV E [.ref b23] [] (c_X3_priceFor (gL G) (gD G) (gY G) s0 b23 Z I19 L20 _ hZ ks0 kb23 h) (gwV W_277 W_278 W_279 W_179 W_276) rfl ⟨rfl, fy_X3_priceFor⟩ ⟨by decide, by decide⟩ (c := 3) rfl (by decide) ks0 rfl rfl (Nat.le_of_ble_eq_true rfl) ⟨Nat.zero_le _, Nat.zero_le _⟩ dX8_priceOf_75 (fun v24 Z25 I26 L27 q28 => ?_)
      obtain ⟨rfl, r30, rfl, h⟩ := q28
      show jJ G 7 78 [(6, .ref s0), (0, .ref v0), (1, .int v1), (2, .int v2), (3, .int v3), (4, .int v4), (5, .int v5)] [.int r30] Z I26 L27 0 0
      exact j_ireturn E ⟨rfl, _, rfl, h⟩ (Nat.zero_le _) (Nat.zero_le _) dX8_priceOf_78
    · have h := h.2 c16
      refine j_iload_n E dX8_priceOf_35 2 rfl ?_
      refine j_if_ne E 57 dX8_priceOf_36 (by decide) (fun c31 => ?_) (fun c31 => ?_)
      · have h := h.1 c31
        refine j_iconst E (v := 0) dX8_priceOf_57 (by decide) ?_
        exact j_ireturn E ⟨rfl, _, rfl, h⟩ (Nat.zero_le _) (Nat.zero_le _) dX8_priceOf_58
      · have h := h.2 c31
        refine j_aload_n E dX8_priceOf_39 1 rfl ?_
        obtain ⟨b32, eb32, kb32, lb32⟩ := sh_f hZ kv0 (j := 3) (k := 14) (m := 24) rfl
        have h := h b32 eb32
        refine j_getr E 8 3 rfl rfl (by decide) (by decide) (iw iT_8) rfl rfl (tw W_261) kv0 eb32 dX8_priceOf_40 ?_
        refine j_iload_n E dX8_priceOf_43 3 rfl ?_
        obtain ⟨o33, h⟩ := h
        refine j_iald E kb32 (by rw [lb32]; exact o33) dX8_priceOf_44 ?_
        refine j_if_ne E 57 dX8_priceOf_45 (by decide) (fun c34 => ?_) (fun c34 => ?_)
        · have h := h.1 c34
          refine j_iconst E (v := 0) dX8_priceOf_57 (by decide) ?_
          exact j_ireturn E ⟨rfl, _, rfl, h⟩ (Nat.zero_le _) (Nat.zero_le _) dX8_priceOf_58
        · have h := h.2 c34
          refine j_aload_n E dX8_priceOf_48 1 rfl ?_
          obtain ⟨b35, eb35, kb35, lb35⟩ := sh_f hZ kv0 (j := 2) (k := 14) (m := 24) rfl
          have h := h b35 eb35
          refine j_getr E 8 2 rfl rfl (by decide) (by decide) (iw iT_8) rfl rfl (tw W_258) kv0 eb35 dX8_priceOf_49 ?_
          refine j_iload_n E dX8_priceOf_52 3 rfl ?_
          obtain ⟨o36, h⟩ := h
          refine j_iald E kb35 (by rw [lb35]; exact o36) dX8_priceOf_53 ?_
          refine j_goto E 58 dX8_priceOf_54 (by decide) ?_
          exact j_ireturn E ⟨rfl, _, rfl, h⟩ (Nat.zero_le _) (Nat.zero_le _) dX8_priceOf_58
  · have h := h.2 c8
    refine j_iconst E (v := 0) dX8_priceOf_25 (by decide) ?_
    exact j_ireturn E ⟨rfl, _, rfl, h⟩ (Nat.zero_le _) (Nat.zero_le _) dX8_priceOf_26
set_option maxRecDepth 100000 in
def f_X8_priceOf (v0 : Nat) (v1 : Int32) (v2 : Int32) (v3 : Int32) (v4 : Int32) (v5 : Int32) (Z : jZ) (I : jI) (L : jL) (Q : Int32 → jI → jL → Prop) : Prop := ((¬ v1 = 0 → (∀ b38 : Nat, jr Z v0 7 = some b38 → f_X8_priceOf_b15  Z Q v0 v1 v2 v3 v4 v5 b38 I L)) ∧ (v1 = 0 → (∀ b39 : Nat, jr Z v0 6 = some b39 → f_X8_priceOf_b15  Z Q v0 v1 v2 v3 v4 v5 b39 I L)))
set_option maxHeartbeats 4000000 in
set_option maxRecDepth 100000 in
theorem c_X8_priceOf (l : Launch) (D : va_G) (cy : jC) (v0 : Nat) (v1 : Int32) (v2 : Int32) (v3 : Int32) (v4 : Int32) (v5 : Int32) (Z : jZ) (I : jI) (L : jL) (Q : Int32 → jI → jL → Prop) (hZ : SH Z) (kv0 : jk Z v0 8) (h : f_X8_priceOf v0 v1 v2 v3 v4 v5 Z I L Q) : jCt l yX8_priceOf w_X8_priceOf { frames := 2, cells := 0, slots := 0, locals := 48 } D cy [.ref v0, .int v1, .int v2, .int v3, .int v4, .int v5] Z I L (rtI Z Q) := by
  refine jCt_of (cc := cX8_priceOf) (maxL := 7) (ret := (some .int)) (by decide +kernel) rfl (Nat.le_of_ble_eq_true rfl) ?_
  intro G eD eY eL E
  subst eD; subst eY; subst eL
  have E : jE G cX8_priceOf RX8 w_X8_priceOf 7 (some .int) { frames := 2, cells := 0, slots := 0, locals := 48 } (rtI Z Q) := E
  show jJ G 7 0 [(0, .ref v0), (1, .int v1), (2, .int v2), (3, .int v3), (4, .int v4), (5, .int v5)] [] Z I L 0 0
  refine j_iload_n E dX8_priceOf_0 1 rfl ?_
  refine j_if_ne E 11 dX8_priceOf_1 (by decide) (fun c37 => ?_) (fun c37 => ?_)
  · have h := h.1 c37
    refine j_aload_n E dX8_priceOf_11 0 rfl ?_
    obtain ⟨b38, eb38, kb38⟩ := sh_o hZ kv0 (j := 7) (k := 3) rfl
    have h := h b38 eb38
    refine j_getr E 8 7 rfl rfl (by decide) (by decide) (iw iT_8) rfl rfl (tw W_280) kv0 eb38 dX8_priceOf_12 ?_
    refine j_sub [0, 1, 2, 3, 4, 5] rfl ?_
    exact m_X8_priceOf_b15 E hZ  v0 v1 v2 v3 v4 v5 b38 I L kv0 kb38 h
  · have h := h.2 c37
    refine j_aload_n E dX8_priceOf_4 0 rfl ?_
    obtain ⟨b39, eb39, kb39⟩ := sh_o hZ kv0 (j := 6) (k := 3) rfl
    have h := h b39 eb39
    refine j_getr E 8 6 rfl rfl (by decide) (by decide) (iw iT_8) rfl rfl (tw W_281) kv0 eb39 dX8_priceOf_5 ?_
    refine j_goto E 15 dX8_priceOf_8 (by decide) ?_
    refine j_sub [0, 1, 2, 3, 4, 5] rfl ?_
    exact m_X8_priceOf_b15 E hZ  v0 v1 v2 v3 v4 v5 b39 I L kv0 kb39 h
set_option maxRecDepth 100000 in
def f_X8_costOfMove_L24  (Z : jZ) (Q : Int32 → jI → jL → Prop) : Nat → Nat → Int32 → Int32 → Int32 → Int32 → Int32 → Int32 → jI → jL → Prop
  | 0 => fun _ _ _ _ _ _ _ _ _ => False
  | n + 1 => fun v0 v1 v2 v3 v4 v5 v6 I L => ((v2 ≤ v6 → Q v5 I L) ∧ (¬ (v2 ≤ v6) → (f_X8_priceOf v0 (1 : Int32) v6 v1 v4 v3 Z I L (fun r8 I4 L5 => (∀ x9 : Int32, x9 = (v5 + r8) → (∀ x10 : Int32, x10 = v6 + 1 → (f_X8_costOfMove_L24 Z Q n) v0 v1 v2 v3 v4 x9 x10 I4 L5))))))
set_option maxHeartbeats 4000000 in
set_option maxRecDepth 100000 in
theorem m_X8_costOfMove_L24 {G : jG} {Z : jZ} {Q : Int32 → jI → jL → Prop} (E : jE G cX8_costOfMove RX8 w_X8_costOfMove 7 (some .int) { frames := 3, cells := 0, slots := 0, locals := 74 } (rtI Z Q)) (hZ : SH Z)  : ∀ (n : Nat) (v0 : Nat) (v1 : Int32) (v2 : Int32) (v3 : Int32) (v4 : Int32) (v5 : Int32) (v6 : Int32) (I : jI) (L : jL), jk Z v0 8 → f_X8_costOfMove_L24  Z Q n v0 v1 v2 v3 v4 v5 v6 I L → jJ G 7 24 [(0, .ref v0), (1, .int v1), (2, .int v2), (3, .int v3), (4, .int v4), (5, .int v5), (6, .int v6)] [] Z I L 0 0 := by
  intro n
  induction n with
  | zero => intro v0 v1 v2 v3 v4 v5 v6 I L _ h; exact h.elim
  | succ n ih =>
    intro v0 v1 v2 v3 v4 v5 v6 I L kv0 h
    have h : ((v2 ≤ v6 → Q v5 I L) ∧ (¬ (v2 ≤ v6) → (f_X8_priceOf v0 (1 : Int32) v6 v1 v4 v3 Z I L (fun r8 I4 L5 => (∀ x9 : Int32, x9 = (v5 + r8) → (∀ x10 : Int32, x10 = v6 + 1 → (f_X8_costOfMove_L24 Z Q n) v0 v1 v2 v3 v4 x9 x10 I4 L5)))))) := h
    obtain ⟨K24, eK24⟩ : ∃ K : Nat → Int32 → Int32 → Int32 → Int32 → Int32 → Int32 → jI → jL → Prop, K = f_X8_costOfMove_L24  Z Q n := ⟨_, rfl⟩
    have hK24 := ih
    clear eK24 K24
    generalize f_X8_costOfMove_L24  Z Q n = K24 at hK24 h
    refine j_iload E dX8_costOfMove_24 6 rfl ?_
    refine j_iload_n E dX8_costOfMove_26 2 rfl ?_
    refine j_icmp_ge E 52 dX8_costOfMove_27 (by decide) (fun c1 => ?_) (fun c1 => ?_)
    · have h := h.1 c1
      refine j_iload E dX8_costOfMove_52 5 rfl ?_
      exact j_ireturn E ⟨rfl, _, rfl, h⟩ (Nat.zero_le _) (Nat.zero_le _) dX8_costOfMove_54
    · have h := h.2 c1
      refine j_iload E dX8_costOfMove_30 5 rfl ?_
      refine j_aload_n E dX8_costOfMove_32 0 rfl ?_
      refine j_iconst E (v := 1) dX8_costOfMove_33 (by decide) ?_
      refine j_iload E dX8_costOfMove_34 6 rfl ?_
      refine j_iload_n E dX8_costOfMove_36 1 rfl ?_
      refine j_iload E dX8_costOfMove_37 4 rfl ?_
      refine j_iload_n E dX8_costOfMove_39 3 rfl ?_
      refine j_callV E [.int (1 : Int32), .int v6, .int v1, .int v4, .int v3] [.int v5] (c_X8_priceOf (gL G) (gD G) (gY G) v0 (1 : Int32) v6 v1 v4 v3 Z I L _ hZ kv0 h) (gwV W_283 W_284 W_285 W_254 W_282) rfl ⟨rfl, fy_X8_priceOf⟩ ⟨by decide, by decide⟩ (c := 8) rfl (by decide) kv0 rfl rfl (Nat.le_of_ble_eq_true rfl) ⟨Nat.zero_le _, Nat.zero_le _⟩ dX8_costOfMove_40 (fun v2 Z3 I4 L5 q6 => ?_)
      obtain ⟨rfl, r8, rfl, h⟩ := q6
      show jJ G 7 43 [(0, .ref v0), (1, .int v1), (2, .int v2), (3, .int v3), (4, .int v4), (5, .int v5), (6, .int v6)] [.int r8, .int v5] Z I4 L5 0 0
      refine j_iadd E dX8_costOfMove_43 ?_
      refine j_topi (fun x9 ex9 => ?_)
      have h := h x9 ex9
      refine j_istore E 5 [(5, .int x9), (0, .ref v0), (1, .int v1), (2, .int v2), (3, .int v3), (4, .int v4), (6, .int v6)] dX8_costOfMove_44 (by decide) rfl ?_
      obtain ⟨x10, ex10⟩ : ∃ y : Int32, y = v6 + 1 := ⟨_, rfl⟩
      have h := h x10 ex10
      refine j_iinc E x10 [(6, .int x10), (5, .int x9), (0, .ref v0), (1, .int v1), (2, .int v2), (3, .int v3), (4, .int v4)] dX8_costOfMove_46 6 rfl (by rw [ex10]; rfl) (by decide) rfl ?_
      refine j_goto E 24 dX8_costOfMove_49 (by decide) ?_
      refine j_sub [2, 3, 4, 5, 6, 1, 0] rfl ?_
      exact hK24 v0 v1 v2 v3 v4 x9 x10 I4 L5 kv0 h
set_option maxRecDepth 100000 in
def f_X8_costOfMove (v0 : Nat) (v1 : Int32) (v2 : Int32) (v3 : Int32) (Z : jZ) (I : jI) (L : jL) (Q : Int32 → jI → jL → Prop) : Prop := (∀ x11 : Int32, x11 = ((v2 - v1) - (1 : Int32)) → (f_X8_priceOf v0 (0 : Int32) v2 v1 x11 v3 Z I L (fun r18 I14 L15 => (∀ x19 : Int32, x19 = (v1 + (1 : Int32)) → (∃ m24 : Nat, f_X8_costOfMove_L24  Z Q m24 v0 v1 v2 v3 x11 r18 x19 I14 L15)))))
set_option maxHeartbeats 4000000 in
set_option maxRecDepth 100000 in
theorem c_X8_costOfMove (l : Launch) (D : va_G) (cy : jC) (v0 : Nat) (v1 : Int32) (v2 : Int32) (v3 : Int32) (Z : jZ) (I : jI) (L : jL) (Q : Int32 → jI → jL → Prop) (hZ : SH Z) (kv0 : jk Z v0 8) (h : f_X8_costOfMove v0 v1 v2 v3 Z I L Q) : jCt l yX8_costOfMove w_X8_costOfMove { frames := 3, cells := 0, slots := 0, locals := 74 } D cy [.ref v0, .int v1, .int v2, .int v3] Z I L (rtI Z Q) := by
  refine jCt_of (cc := cX8_costOfMove) (maxL := 7) (ret := (some .int)) (by decide +kernel) rfl (Nat.le_of_ble_eq_true rfl) ?_
  intro G eD eY eL E
  subst eD; subst eY; subst eL
  have E : jE G cX8_costOfMove RX8 w_X8_costOfMove 7 (some .int) { frames := 3, cells := 0, slots := 0, locals := 74 } (rtI Z Q) := E
  show jJ G 7 0 [(0, .ref v0), (1, .int v1), (2, .int v2), (3, .int v3)] [] Z I L 0 0
  refine j_iload_n E dX8_costOfMove_0 2 rfl ?_
  refine j_iload_n E dX8_costOfMove_1 1 rfl ?_
  refine j_isub E dX8_costOfMove_2 ?_
  refine j_iconst E (v := 1) dX8_costOfMove_3 (by decide) ?_
  refine j_isub E dX8_costOfMove_4 ?_
  refine j_topi (fun x11 ex11 => ?_)
  have h := h x11 ex11
  refine j_istore E 4 [(4, .int x11), (0, .ref v0), (1, .int v1), (2, .int v2), (3, .int v3)] dX8_costOfMove_5 (by decide) rfl ?_
  refine j_aload_n E dX8_costOfMove_7 1 rfl ?_
  refine j_iconst E (v := 0) dX8_costOfMove_8 (by decide) ?_
  refine j_iload_n E dX8_costOfMove_9 3 rfl ?_
  refine j_iload_n E dX8_costOfMove_10 2 rfl ?_
  refine j_iload E dX8_costOfMove_11 0 rfl ?_
  refine j_iload_n E dX8_costOfMove_13 4 rfl ?_
  refine j_callV E [.int (0 : Int32), .int v2, .int v1, .int x11, .int v3] [] (c_X8_priceOf (gL G) (gD G) (gY G) v0 (0 : Int32) v2 v1 x11 v3 Z I L _ hZ kv0 h) (gwV W_283 W_284 W_285 W_254 W_282) rfl ⟨rfl, fy_X8_priceOf⟩ ⟨by decide, by decide⟩ (c := 8) rfl (by decide) kv0 rfl rfl (Nat.le_of_ble_eq_true rfl) ⟨Nat.zero_le _, Nat.zero_le _⟩ dX8_costOfMove_14 (fun v12 Z13 I14 L15 q16 => ?_)
  obtain ⟨rfl, r18, rfl, h⟩ := q16
  show jJ G 7 17 [(4, .int x11), (0, .ref v0), (1, .int v1), (2, .int v2), (3, .int v3)] [.int r18] Z I14 L15 0 0
  refine j_istore E 5 [(5, .int r18), (4, .int x11), (0, .ref v0), (1, .int v1), (2, .int v2), (3, .int v3)] dX8_costOfMove_17 (by decide) rfl ?_
  refine j_iload_n E dX8_costOfMove_19 3 rfl ?_
  refine j_iconst E (v := 1) dX8_costOfMove_20 (by decide) ?_
  refine j_iadd E dX8_costOfMove_21 ?_
  refine j_topi (fun x19 ex19 => ?_)
  have h := h x19 ex19
  refine j_istore E 6 [(6, .int x19), (5, .int r18), (4, .int x11), (0, .ref v0), (1, .int v1), (2, .int v2), (3, .int v3)] dX8_costOfMove_22 (by decide) rfl ?_
  obtain ⟨n20, h⟩ := h
  refine j_sub [3, 4, 5, 6, 2, 1, 0] rfl ?_
  exact m_X8_costOfMove_L24 E hZ  n20 v0 v1 v2 v3 x11 r18 x19 I14 L15 kv0 h
set_option maxRecDepth 100000 in
def f_X8_effortOfMove_b66  (Z : jZ) (Q : Int32 → jI → jL → Prop) (v1 : Int32) (v2 : Int32) (v3 : Int32) (v4 : Int32) (s0 : Int32) (I : jI) (L : jL) : Prop := Q ((((v4 * ((10 : Int32) + v3)) / (10 : Int32)) + s0) + ((5 : Int32) * ((v2 - v1) - (1 : Int32)))) I L
set_option maxHeartbeats 4000000 in
set_option maxRecDepth 100000 in
theorem m_X8_effortOfMove_b66 {G : jG} {Z : jZ} {Q : Int32 → jI → jL → Prop} (E : jE G cX8_effortOfMove RX8 w_X8_effortOfMove 6 (some .int) { frames := 1, cells := 0, slots := 0, locals := 21 } (rtI Z Q)) (hZ : SH Z)  (v1 : Int32) (v2 : Int32) (v3 : Int32) (v4 : Int32) (s0 : Int32) (I : jI) (L : jL)  (h : f_X8_effortOfMove_b66  Z Q v1 v2 v3 v4 s0 I L) : jJ G 6 66 [(1, .int v1), (2, .int v2), (3, .int v3), (4, .int v4)] [.int s0] Z I L 0 0 := by
  refine j_istore E 5 [(5, .int s0), (1, .int v1), (2, .int v2), (3, .int v3), (4, .int v4)] dX8_effortOfMove_66 (by decide) rfl ?_
  refine j_iload E dX8_effortOfMove_68 4 rfl ?_
  refine j_bipush E (v := 10) dX8_effortOfMove_70 (by decide) ?_
  refine j_iload_n E dX8_effortOfMove_72 3 rfl ?_
  refine j_iadd E dX8_effortOfMove_73 ?_
  refine j_imul E dX8_effortOfMove_74 ?_
  refine j_bipush E (v := 10) dX8_effortOfMove_75 (by decide) ?_
  refine j_idiv E dX8_effortOfMove_77 (by decide) ?_
  refine j_iload E dX8_effortOfMove_78 0 rfl ?_
  refine j_iadd E dX8_effortOfMove_80 ?_
  refine j_iconst E (v := 5) dX8_effortOfMove_81 (by decide) ?_
  refine j_iload_n E dX8_effortOfMove_82 2 rfl ?_
  refine j_iload_n E dX8_effortOfMove_83 1 rfl ?_
  refine j_isub E dX8_effortOfMove_84 ?_
  refine j_iconst E (v := 1) dX8_effortOfMove_85 (by decide) ?_
  refine j_isub E dX8_effortOfMove_86 ?_
  refine j_imul E dX8_effortOfMove_87 ?_
  refine j_iadd E dX8_effortOfMove_88 ?_
  exact j_ireturn E ⟨rfl, _, rfl, h⟩ (Nat.zero_le _) (Nat.zero_le _) dX8_effortOfMove_89
set_option maxRecDepth 100000 in
def f_X8_effortOfMove_b36 (K8 : Nat → Int32 → Int32 → Int32 → Int32 → Int32 → jI → jL → Prop) (Z : jZ) (Q : Int32 → jI → jL → Prop) (v0 : Nat) (v1 : Int32) (v2 : Int32) (v3 : Int32) (v5 : Int32) (s0 : Int32) (s1 : Int32) (I : jI) (L : jL) : Prop := (∀ x1 : Int32, x1 = (s0 + s1) → (∀ x2 : Int32, x2 = v5 + 1 → K8 v0 v1 v2 v3 x1 x2 I L))
set_option maxHeartbeats 4000000 in
set_option maxRecDepth 100000 in
theorem m_X8_effortOfMove_b36 {G : jG} {Z : jZ} {Q : Int32 → jI → jL → Prop} (E : jE G cX8_effortOfMove RX8 w_X8_effortOfMove 6 (some .int) { frames := 1, cells := 0, slots := 0, locals := 21 } (rtI Z Q)) (hZ : SH Z) (K8 : Nat → Int32 → Int32 → Int32 → Int32 → Int32 → jI → jL → Prop) (hK8 : ∀ (v0 : Nat) (v1 : Int32) (v2 : Int32) (v3 : Int32) (v4 : Int32) (v5 : Int32) (I : jI) (L : jL), jk Z v0 8 → K8 v0 v1 v2 v3 v4 v5 I L → jJ G 6 8 [(0, .ref v0), (1, .int v1), (2, .int v2), (3, .int v3), (4, .int v4), (5, .int v5)] [] Z I L 0 0) (v0 : Nat) (v1 : Int32) (v2 : Int32) (v3 : Int32) (v5 : Int32) (s0 : Int32) (s1 : Int32) (I : jI) (L : jL) (kv0 : jk Z v0 8) (h : f_X8_effortOfMove_b36 K8 Z Q v0 v1 v2 v3 v5 s0 s1 I L) : jJ G 6 36 [(0, .ref v0), (1, .int v1), (2, .int v2), (3, .int v3), (5, .int v5)] [.int s1, .int s0] Z I L 0 0 := by
  refine j_iadd E dX8_effortOfMove_36 ?_
  refine j_topi (fun x1 ex1 => ?_)
  have h := h x1 ex1
  refine j_istore E 4 [(4, .int x1), (0, .ref v0), (1, .int v1), (2, .int v2), (3, .int v3), (5, .int v5)] dX8_effortOfMove_37 (by decide) rfl ?_
  obtain ⟨x2, ex2⟩ : ∃ y : Int32, y = v5 + 1 := ⟨_, rfl⟩
  have h := h x2 ex2
  refine j_iinc E x2 [(5, .int x2), (4, .int x1), (0, .ref v0), (1, .int v1), (2, .int v2), (3, .int v3)] dX8_effortOfMove_39 5 rfl (by rw [ex2]; rfl) (by decide) rfl ?_
  refine j_goto E 8 dX8_effortOfMove_42 (by decide) ?_
  refine j_sub [2, 3, 4, 5, 1, 0] rfl ?_
  exact hK8 v0 v1 v2 v3 x1 x2 I L kv0 h
set_option maxRecDepth 100000 in
def f_X8_effortOfMove_L8  (Z : jZ) (Q : Int32 → jI → jL → Prop) : Nat → Nat → Int32 → Int32 → Int32 → Int32 → Int32 → jI → jL → Prop
  | 0 => fun _ _ _ _ _ _ _ _ => False
  | n + 1 => fun v0 v1 v2 v3 v4 v5 I L => ((v2 < v5 → (f_X8_has v0 v2 Z I L (fun r10 I6 L7 => ((r10 = 0 → f_X8_effortOfMove_b66  Z Q v1 v2 v3 v4 (0 : Int32) I6 L7) ∧ (¬ (r10 = 0) → (∀ b12 : Nat, jr Z v0 1 = some b12 → (vp_in v2 24 ∧ f_X8_effortOfMove_b66  Z Q v1 v2 v3 v4 ((9 : Int32) - (I6 b12 v2.toNatClampNeg)) I6 L7))))))) ∧ (¬ (v2 < v5) → (f_X8_has v0 v5 Z I L (fun r20 I16 L17 => ((r20 = 0 → f_X8_effortOfMove_b36 (f_X8_effortOfMove_L8 Z Q n) Z Q v0 v1 v2 v3 v5 v4 (0 : Int32) I16 L17) ∧ (¬ (r20 = 0) → (∀ b22 : Nat, jr Z v0 0 = some b22 → (vp_in v5 24 ∧ f_X8_effortOfMove_b36 (f_X8_effortOfMove_L8 Z Q n) Z Q v0 v1 v2 v3 v5 v4 (I16 b22 v5.toNatClampNeg) I16 L17))))))))
set_option maxHeartbeats 4000000 in
set_option maxRecDepth 100000 in
theorem m_X8_effortOfMove_L8 {G : jG} {Z : jZ} {Q : Int32 → jI → jL → Prop} (E : jE G cX8_effortOfMove RX8 w_X8_effortOfMove 6 (some .int) { frames := 1, cells := 0, slots := 0, locals := 21 } (rtI Z Q)) (hZ : SH Z)  : ∀ (n : Nat) (v0 : Nat) (v1 : Int32) (v2 : Int32) (v3 : Int32) (v4 : Int32) (v5 : Int32) (I : jI) (L : jL), jk Z v0 8 → f_X8_effortOfMove_L8  Z Q n v0 v1 v2 v3 v4 v5 I L → jJ G 6 8 [(0, .ref v0), (1, .int v1), (2, .int v2), (3, .int v3), (4, .int v4), (5, .int v5)] [] Z I L 0 0 := by
  intro n
  induction n with
  | zero => intro v0 v1 v2 v3 v4 v5 I L _ h; exact h.elim
  | succ n ih =>
    intro v0 v1 v2 v3 v4 v5 I L kv0 h
    have h : ((v2 < v5 → (f_X8_has v0 v2 Z I L (fun r10 I6 L7 => ((r10 = 0 → f_X8_effortOfMove_b66  Z Q v1 v2 v3 v4 (0 : Int32) I6 L7) ∧ (¬ (r10 = 0) → (∀ b12 : Nat, jr Z v0 1 = some b12 → (vp_in v2 24 ∧ f_X8_effortOfMove_b66  Z Q v1 v2 v3 v4 ((9 : Int32) - (I6 b12 v2.toNatClampNeg)) I6 L7))))))) ∧ (¬ (v2 < v5) → (f_X8_has v0 v5 Z I L (fun r20 I16 L17 => ((r20 = 0 → f_X8_effortOfMove_b36 (f_X8_effortOfMove_L8 Z Q n) Z Q v0 v1 v2 v3 v5 v4 (0 : Int32) I16 L17) ∧ (¬ (r20 = 0) → (∀ b22 : Nat, jr Z v0 0 = some b22 → (vp_in v5 24 ∧ f_X8_effortOfMove_b36 (f_X8_effortOfMove_L8 Z Q n) Z Q v0 v1 v2 v3 v5 v4 (I16 b22 v5.toNatClampNeg) I16 L17)))))))) := h
    obtain ⟨K8, eK8⟩ : ∃ K : Nat → Int32 → Int32 → Int32 → Int32 → Int32 → jI → jL → Prop, K = f_X8_effortOfMove_L8  Z Q n := ⟨_, rfl⟩
    have hK8 := ih
    clear eK8 K8
    generalize f_X8_effortOfMove_L8  Z Q n = K8 at hK8 h
    refine j_iload E dX8_effortOfMove_8 5 rfl ?_
    refine j_iload_n E dX8_effortOfMove_10 2 rfl ?_
    refine j_icmp_gt E 45 dX8_effortOfMove_11 (by decide) (fun c3 => ?_) (fun c3 => ?_)
    · have h := h.1 c3
      refine j_aload_n E dX8_effortOfMove_45 0 rfl ?_
      refine j_iload_n E dX8_effortOfMove_46 2 rfl ?_
      refine j_callV E [.int v2] [] (c_X8_has (gL G) (gD G) (gY G) v0 v2 Z I L _ hZ kv0 h) (gwV W_255 W_256 W_257 W_254 W_253) rfl ⟨rfl, fy_X8_has⟩ ⟨by decide, by decide⟩ (c := 8) rfl (by decide) kv0 rfl rfl (Nat.le_of_ble_eq_true rfl) ⟨Nat.zero_le _, Nat.zero_le _⟩ dX8_effortOfMove_47 (fun v4 Z5 I6 L7 q8 => ?_)
      obtain ⟨rfl, r10, rfl, zr10, h⟩ := q8
      show jJ G 6 50 [(0, .ref v0), (1, .int v1), (2, .int v2), (3, .int v3), (4, .int v4), (5, .int v5)] [.int r10] Z I6 L7 0 0
      refine j_if_eq E 65 dX8_effortOfMove_50 (by decide) (fun c11 => ?_) (fun c11 => ?_)
      · have h := h.1 c11
        refine j_iconst E (v := 0) dX8_effortOfMove_65 (by decide) ?_
        refine j_sub [1, 2, 3, 4] rfl ?_
        exact m_X8_effortOfMove_b66 E hZ  v1 v2 v3 v4 (0 : Int32) I6 L7  h
      · have h := h.2 c11
        refine j_bipush E (v := 9) dX8_effortOfMove_53 (by decide) ?_
        refine j_aload_n E dX8_effortOfMove_55 0 rfl ?_
        obtain ⟨b12, eb12, kb12, lb12⟩ := sh_f hZ kv0 (j := 1) (k := 14) (m := 24) rfl
        have h := h b12 eb12
        refine j_getr E 8 1 rfl rfl (by decide) (by decide) (iw iT_8) rfl rfl (tw W_260) kv0 eb12 dX8_effortOfMove_56 ?_
        refine j_iload_n E dX8_effortOfMove_59 2 rfl ?_
        obtain ⟨o13, h⟩ := h
        refine j_iald E kb12 (by rw [lb12]; exact o13) dX8_effortOfMove_60 ?_
        refine j_isub E dX8_effortOfMove_61 ?_
        refine j_goto E 66 dX8_effortOfMove_62 (by decide) ?_
        refine j_sub [1, 2, 3, 4] rfl ?_
        exact m_X8_effortOfMove_b66 E hZ  v1 v2 v3 v4 ((9 : Int32) - (I6 b12 v2.toNatClampNeg)) I6 L7  h
    · have h := h.2 c3
      refine j_iload E dX8_effortOfMove_14 4 rfl ?_
      refine j_aload_n E dX8_effortOfMove_16 0 rfl ?_
      refine j_iload E dX8_effortOfMove_17 5 rfl ?_
      refine j_callV E [.int v5] [.int v4] (c_X8_has (gL G) (gD G) (gY G) v0 v5 Z I L _ hZ kv0 h) (gwV W_255 W_256 W_257 W_254 W_253) rfl ⟨rfl, fy_X8_has⟩ ⟨by decide, by decide⟩ (c := 8) rfl (by decide) kv0 rfl rfl (Nat.le_of_ble_eq_true rfl) ⟨Nat.zero_le _, Nat.zero_le _⟩ dX8_effortOfMove_19 (fun v14 Z15 I16 L17 q18 => ?_)
      obtain ⟨rfl, r20, rfl, zr20, h⟩ := q18
      show jJ G 6 22 [(0, .ref v0), (1, .int v1), (2, .int v2), (3, .int v3), (4, .int v4), (5, .int v5)] [.int r20, .int v4] Z I16 L17 0 0
      refine j_if_eq E 35 dX8_effortOfMove_22 (by decide) (fun c21 => ?_) (fun c21 => ?_)
      · have h := h.1 c21
        refine j_iconst E (v := 0) dX8_effortOfMove_35 (by decide) ?_
        refine j_sub [0, 1, 2, 3, 5] rfl ?_
        exact m_X8_effortOfMove_b36 E hZ K8 hK8 v0 v1 v2 v3 v5 v4 (0 : Int32) I16 L17 kv0 h
      · have h := h.2 c21
        refine j_aload_n E dX8_effortOfMove_25 0 rfl ?_
        obtain ⟨b22, eb22, kb22, lb22⟩ := sh_f hZ kv0 (j := 0) (k := 14) (m := 24) rfl
        have h := h b22 eb22
        refine j_getr E 8 0 rfl rfl (by decide) (by decide) (iw iT_8) rfl rfl (tw W_259) kv0 eb22 dX8_effortOfMove_26 ?_
        refine j_iload E dX8_effortOfMove_29 5 rfl ?_
        obtain ⟨o23, h⟩ := h
        refine j_iald E kb22 (by rw [lb22]; exact o23) dX8_effortOfMove_31 ?_
        refine j_goto E 36 dX8_effortOfMove_32 (by decide) ?_
        refine j_sub [0, 1, 2, 3, 5] rfl ?_
        exact m_X8_effortOfMove_b36 E hZ K8 hK8 v0 v1 v2 v3 v5 v4 (I16 b22 v5.toNatClampNeg) I16 L17 kv0 h
set_option maxRecDepth 100000 in
def f_X8_effortOfMove (v0 : Nat) (v1 : Int32) (v2 : Int32) (v3 : Int32) (Z : jZ) (I : jI) (L : jL) (Q : Int32 → jI → jL → Prop) : Prop := (∀ x24 : Int32, x24 = (v1 + (1 : Int32)) → (∃ m8 : Nat, f_X8_effortOfMove_L8  Z Q m8 v0 v1 v2 v3 (0 : Int32) x24 I L))
set_option maxHeartbeats 4000000 in
set_option maxRecDepth 100000 in
theorem c_X8_effortOfMove (l : Launch) (D : va_G) (cy : jC) (v0 : Nat) (v1 : Int32) (v2 : Int32) (v3 : Int32) (Z : jZ) (I : jI) (L : jL) (Q : Int32 → jI → jL → Prop) (hZ : SH Z) (kv0 : jk Z v0 8) (h : f_X8_effortOfMove v0 v1 v2 v3 Z I L Q) : jCt l yX8_effortOfMove w_X8_effortOfMove { frames := 1, cells := 0, slots := 0, locals := 21 } D cy [.ref v0, .int v1, .int v2, .int v3] Z I L (rtI Z Q) := by
  refine jCt_of (cc := cX8_effortOfMove) (maxL := 6) (ret := (some .int)) (by decide +kernel) rfl (Nat.le_of_ble_eq_true rfl) ?_
  intro G eD eY eL E
  subst eD; subst eY; subst eL
  have E : jE G cX8_effortOfMove RX8 w_X8_effortOfMove 6 (some .int) { frames := 1, cells := 0, slots := 0, locals := 21 } (rtI Z Q) := E
  show jJ G 6 0 [(0, .ref v0), (1, .int v1), (2, .int v2), (3, .int v3)] [] Z I L 0 0
  refine j_iconst E (v := 0) dX8_effortOfMove_0 (by decide) ?_
  refine j_istore E 4 [(4, .int (0 : Int32)), (0, .ref v0), (1, .int v1), (2, .int v2), (3, .int v3)] dX8_effortOfMove_1 (by decide) rfl ?_
  refine j_iload_n E dX8_effortOfMove_3 2 rfl ?_
  refine j_iconst E (v := 1) dX8_effortOfMove_4 (by decide) ?_
  refine j_iadd E dX8_effortOfMove_5 ?_
  refine j_topi (fun x24 ex24 => ?_)
  have h := h x24 ex24
  refine j_istore E 5 [(5, .int x24), (4, .int (0 : Int32)), (0, .ref v0), (1, .int v1), (2, .int v2), (3, .int v3)] dX8_effortOfMove_6 (by decide) rfl ?_
  obtain ⟨n25, h⟩ := h
  refine j_sub [2, 3, 4, 5, 1, 0] rfl ?_
  exact m_X8_effortOfMove_L8 E hZ  n25 v0 v1 v2 v3 (0 : Int32) x24 I L kv0 h
set_option maxRecDepth 100000 in
def f_X6_measure_b114 (K6 : Nat → Int32 → Int32 → jI → jL → Prop) (Z : jZ) (Q : jI → jL → Prop) (v0 : Nat) (v2 : Int32) (v3 : Int32) (I : jI) (L : jL) : Prop := (∀ x1 : Int32, x1 = v3 + 1 → K6 v0 v2 x1 I L)
set_option maxHeartbeats 4000000 in
set_option maxRecDepth 100000 in
theorem m_X6_measure_b114 {G : jG} {Z : jZ} {Q : jI → jL → Prop} (E : jE G cX6_measure RX6 w_X6_measure 6 none { frames := 4, cells := 0, slots := 0, locals := 100 } (rtV Z Q)) (hZ : SH Z) (K6 : Nat → Int32 → Int32 → jI → jL → Prop) (hK6 : ∀ (v0 : Nat) (v2 : Int32) (v3 : Int32) (I : jI) (L : jL), jk Z v0 6 → K6 v0 v2 v3 I L → jJ G 6 6 [(0, .ref v0), (2, .int v2), (3, .int v3)] [] Z I L 0 0) (v0 : Nat) (v2 : Int32) (v3 : Int32) (I : jI) (L : jL) (kv0 : jk Z v0 6) (h : f_X6_measure_b114 K6 Z Q v0 v2 v3 I L) : jJ G 6 114 [(0, .ref v0), (2, .int v2), (3, .int v3)] [] Z I L 0 0 := by
  obtain ⟨x1, ex1⟩ : ∃ y : Int32, y = v3 + 1 := ⟨_, rfl⟩
  have h := h x1 ex1
  refine j_iinc E x1 [(3, .int x1), (0, .ref v0), (2, .int v2)] dX6_measure_114 2 rfl (by rw [ex1]; rfl) (by decide) rfl ?_
  refine j_goto E 6 dX6_measure_117 (by decide) ?_
  refine j_sub [1, 2, 0] rfl ?_
  exact hK6 v0 v2 x1 I L kv0 h
set_option maxRecDepth 100000 in
def f_X6_measure_L22 (K6 : Nat → Int32 → Int32 → jI → jL → Prop) (Z : jZ) (Q : jI → jL → Prop) : Nat → Nat → Int32 → Int32 → Int32 → jI → jL → Prop
  | 0 => fun _ _ _ _ _ _ => False
  | n + 1 => fun v0 v2 v3 v4 I L => (((I v0 3) < v4 → f_X6_measure_b114 K6 Z Q v0 v2 v3 I L) ∧ (¬ ((I v0 3) < v4) → ((v3 < v4 → f_X6_measure_b114 K6 Z Q v0 v2 v3 I L) ∧ (¬ (v3 < v4) → (∀ b4 : Nat, jr Z v0 6 = some b4 → (vp_in v3 25 ∧ (((I b4 v3.toNatClampNeg) = 0 → f_X6_measure_b114 K6 Z Q v0 v2 v3 I L) ∧ (¬ ((I b4 v3.toNatClampNeg) = 0) → (f_X6_moveTo v3 v4 Z I L (fun r13 I9 L10 => (∀ b14 : Nat, jr Z v0 4 = some b14 → (∀ b15 : Nat, jr Z v0 0 = some b15 → (f_X8_costOfMove b15 ((v3 - v4) - (1 : Int32)) (v3 - (1 : Int32)) (I9 v0 14) Z I9 L10 (fun r22 I18 L19 => (vp_in r13 75 ∧ (∀ I24 : jI, I24 = jpI I18 b14 r13.toNatClampNeg r22 → (∀ b25 : Nat, jr Z v0 5 = some b25 → (∀ b26 : Nat, jr Z v0 0 = some b26 → (f_X8_effortOfMove b26 ((v3 - v4) - (1 : Int32)) (v3 - (1 : Int32)) (I24 v0 14) Z I24 L19 (fun r33 I29 L30 => (vp_in r13 75 ∧ (∀ I35 : jI, I35 = jpI I29 b25 r13.toNatClampNeg r33 → (∀ x36 : Int32, x36 = v4 + 1 → (f_X6_measure_L22 K6 Z Q n) v0 v2 v3 x36 I35 L30)))))))))))))))))))))))
set_option maxHeartbeats 4000000 in
set_option maxRecDepth 100000 in
theorem m_X6_measure_L22 {G : jG} {Z : jZ} {Q : jI → jL → Prop} (E : jE G cX6_measure RX6 w_X6_measure 6 none { frames := 4, cells := 0, slots := 0, locals := 100 } (rtV Z Q)) (hZ : SH Z) (K6 : Nat → Int32 → Int32 → jI → jL → Prop) (hK6 : ∀ (v0 : Nat) (v2 : Int32) (v3 : Int32) (I : jI) (L : jL), jk Z v0 6 → K6 v0 v2 v3 I L → jJ G 6 6 [(0, .ref v0), (2, .int v2), (3, .int v3)] [] Z I L 0 0) : ∀ (n : Nat) (v0 : Nat) (v2 : Int32) (v3 : Int32) (v4 : Int32) (I : jI) (L : jL), jk Z v0 6 → f_X6_measure_L22 K6 Z Q n v0 v2 v3 v4 I L → jJ G 6 22 [(0, .ref v0), (2, .int v2), (3, .int v3), (4, .int v4)] [] Z I L 0 0 := by
  intro n
  induction n with
  | zero => intro v0 v2 v3 v4 I L _ h; exact h.elim
  | succ n ih =>
    intro v0 v2 v3 v4 I L kv0 h
    have h : (((I v0 3) < v4 → f_X6_measure_b114 K6 Z Q v0 v2 v3 I L) ∧ (¬ ((I v0 3) < v4) → ((v3 < v4 → f_X6_measure_b114 K6 Z Q v0 v2 v3 I L) ∧ (¬ (v3 < v4) → (∀ b4 : Nat, jr Z v0 6 = some b4 → (vp_in v3 25 ∧ (((I b4 v3.toNatClampNeg) = 0 → f_X6_measure_b114 K6 Z Q v0 v2 v3 I L) ∧ (¬ ((I b4 v3.toNatClampNeg) = 0) → (f_X6_moveTo v3 v4 Z I L (fun r13 I9 L10 => (∀ b14 : Nat, jr Z v0 4 = some b14 → (∀ b15 : Nat, jr Z v0 0 = some b15 → (f_X8_costOfMove b15 ((v3 - v4) - (1 : Int32)) (v3 - (1 : Int32)) (I9 v0 14) Z I9 L10 (fun r22 I18 L19 => (vp_in r13 75 ∧ (∀ I24 : jI, I24 = jpI I18 b14 r13.toNatClampNeg r22 → (∀ b25 : Nat, jr Z v0 5 = some b25 → (∀ b26 : Nat, jr Z v0 0 = some b26 → (f_X8_effortOfMove b26 ((v3 - v4) - (1 : Int32)) (v3 - (1 : Int32)) (I24 v0 14) Z I24 L19 (fun r33 I29 L30 => (vp_in r13 75 ∧ (∀ I35 : jI, I35 = jpI I29 b25 r13.toNatClampNeg r33 → (∀ x36 : Int32, x36 = v4 + 1 → (f_X6_measure_L22 K6 Z Q n) v0 v2 v3 x36 I35 L30))))))))))))))))))))))) := h
    obtain ⟨K22, eK22⟩ : ∃ K : Nat → Int32 → Int32 → Int32 → jI → jL → Prop, K = f_X6_measure_L22 K6 Z Q n := ⟨_, rfl⟩
    have hK22 := ih
    clear eK22 K22
    generalize f_X6_measure_L22 K6 Z Q n = K22 at hK22 h
    refine j_iload E dX6_measure_22 3 rfl ?_
    refine j_aload_n E dX6_measure_24 0 rfl ?_
    refine j_geti E 6 3 rfl rfl (by decide) (by decide) (iw iT_6) rfl rfl (tw W_58) kv0 dX6_measure_25 ?_
    refine j_icmp_gt E 114 dX6_measure_28 (by decide) (fun c2 => ?_) (fun c2 => ?_)
    · have h := h.1 c2
      refine j_sub [0, 1, 2] rfl ?_
      exact m_X6_measure_b114 E hZ K6 hK6 v0 v2 v3 I L kv0 h
    · have h := h.2 c2
      refine j_iload E dX6_measure_31 3 rfl ?_
      refine j_iload_n E dX6_measure_33 2 rfl ?_
      refine j_icmp_gt E 114 dX6_measure_34 (by decide) (fun c3 => ?_) (fun c3 => ?_)
      · have h := h.1 c3
        refine j_sub [0, 1, 2] rfl ?_
        exact m_X6_measure_b114 E hZ K6 hK6 v0 v2 v3 I L kv0 h
      · have h := h.2 c3
        refine j_aload_n E dX6_measure_37 0 rfl ?_
        obtain ⟨b4, eb4, kb4, lb4⟩ := sh_f hZ kv0 (j := 6) (k := 16) (m := 25) rfl
        have h := h b4 eb4
        refine j_getr E 6 6 rfl rfl (by decide) (by decide) (iw iT_6) rfl rfl (tw W_59) kv0 eb4 dX6_measure_38 ?_
        refine j_iload_n E dX6_measure_41 2 rfl ?_
        obtain ⟨o5, h⟩ := h
        refine j_zald E kb4 (by rw [lb4]; exact o5) dX6_measure_42 ?_
        refine j_if_eq E 114 dX6_measure_43 (by decide) (fun c6 => ?_) (fun c6 => ?_)
        · have h := h.1 c6
          refine j_sub [0, 1, 2] rfl ?_
          exact m_X6_measure_b114 E hZ K6 hK6 v0 v2 v3 I L kv0 h
        · have h := h.2 c6
          refine j_iload_n E dX6_measure_46 2 rfl ?_
          refine j_iload E dX6_measure_47 3 rfl ?_
          refine j_callS E [.int v3, .int v4] [] (c_X6_moveTo (gL G) (gD G) (gY G) v3 v4 Z I L _ hZ  h) (gwS W_34 W_35 W_33 W_32) rfl fy_X6_moveTo ⟨by decide, by decide⟩ rfl rfl (Nat.le_of_ble_eq_true rfl) ⟨Nat.zero_le _, Nat.zero_le _⟩ dX6_measure_49 (fun v7 Z8 I9 L10 q11 => ?_)
          obtain ⟨rfl, r13, rfl, h⟩ := q11
          show jJ G 6 52 [(0, .ref v0), (2, .int v2), (3, .int v3), (4, .int v4)] [.int r13] Z I9 L10 0 0
          refine j_istore E 5 [(5, .int r13), (0, .ref v0), (2, .int v2), (3, .int v3), (4, .int v4)] dX6_measure_52 (by decide) rfl ?_
          refine j_aload_n E dX6_measure_54 1 rfl ?_
          obtain ⟨b14, eb14, kb14, lb14⟩ := sh_f hZ kv0 (j := 4) (k := 14) (m := 75) rfl
          have h := h b14 eb14
          refine j_getr E 6 4 rfl rfl (by decide) (by decide) (iw iT_6) rfl rfl (tw W_36) kv0 eb14 dX6_measure_55 ?_
          refine j_iload E dX6_measure_58 0 rfl ?_
          refine j_aload_n E dX6_measure_60 1 rfl ?_
          obtain ⟨b15, eb15, kb15⟩ := sh_o hZ kv0 (j := 0) (k := 8) rfl
          have h := h b15 eb15
          refine j_getr E 6 0 rfl rfl (by decide) (by decide) (iw iT_6) rfl rfl (tw W_286) kv0 eb15 dX6_measure_61 ?_
          refine j_iload_n E dX6_measure_64 3 rfl ?_
          refine j_iload E dX6_measure_65 4 rfl ?_
          refine j_isub E dX6_measure_67 ?_
          refine j_iconst E (v := 1) dX6_measure_68 (by decide) ?_
          refine j_isub E dX6_measure_69 ?_
          refine j_iload_n E dX6_measure_70 3 rfl ?_
          refine j_iconst E (v := 1) dX6_measure_71 (by decide) ?_
          refine j_isub E dX6_measure_72 ?_
          refine j_aload_n E dX6_measure_73 1 rfl ?_
          refine j_geti E 6 14 rfl rfl (by decide) (by decide) (iw iT_6) rfl rfl (tw W_287) kv0 dX6_measure_74 ?_
          refine j_callV E [.int ((v3 - v4) - (1 : Int32)), .int (v3 - (1 : Int32)), .int (I9 v0 14)] [.int r13, .ref b14] (c_X8_costOfMove (gL G) (gD G) (gY G) b15 ((v3 - v4) - (1 : Int32)) (v3 - (1 : Int32)) (I9 v0 14) Z I9 L10 _ hZ kb15 h) (gwV W_289 W_290 W_291 W_254 W_288) rfl ⟨rfl, fy_X8_costOfMove⟩ ⟨by decide, by decide⟩ (c := 8) rfl (by decide) kb15 rfl rfl (Nat.le_of_ble_eq_true rfl) ⟨Nat.zero_le _, Nat.zero_le _⟩ dX6_measure_77 (fun v16 Z17 I18 L19 q20 => ?_)
          obtain ⟨rfl, r22, rfl, h⟩ := q20
          show jJ G 6 80 [(5, .int r13), (0, .ref v0), (2, .int v2), (3, .int v3), (4, .int v4)] [.int r22, .int r13, .ref b14] Z I18 L19 0 0
          obtain ⟨o23, h⟩ := h
          refine j_iast E kb14 (by rw [lb14]; exact o23) dX6_measure_80 ?_
          refine j_nmI (fun I24 eI24 => ?_)
          have h := h I24 eI24
          refine j_aload_n E dX6_measure_81 1 rfl ?_
          obtain ⟨b25, eb25, kb25, lb25⟩ := sh_f hZ kv0 (j := 5) (k := 14) (m := 75) rfl
          have h := h b25 eb25
          refine j_getr E 6 5 rfl rfl (by decide) (by decide) (iw iT_6) rfl rfl (tw W_37) kv0 eb25 dX6_measure_82 ?_
          refine j_iload E dX6_measure_85 0 rfl ?_
          refine j_aload_n E dX6_measure_87 1 rfl ?_
          obtain ⟨b26, eb26, kb26⟩ := sh_o hZ kv0 (j := 0) (k := 8) rfl
          have h := h b26 eb26
          refine j_getr E 6 0 rfl rfl (by decide) (by decide) (iw iT_6) rfl rfl (tw W_286) kv0 eb26 dX6_measure_88 ?_
          refine j_iload_n E dX6_measure_91 3 rfl ?_
          refine j_iload E dX6_measure_92 4 rfl ?_
          refine j_isub E dX6_measure_94 ?_
          refine j_iconst E (v := 1) dX6_measure_95 (by decide) ?_
          refine j_isub E dX6_measure_96 ?_
          refine j_iload_n E dX6_measure_97 3 rfl ?_
          refine j_iconst E (v := 1) dX6_measure_98 (by decide) ?_
          refine j_isub E dX6_measure_99 ?_
          refine j_aload_n E dX6_measure_100 1 rfl ?_
          refine j_geti E 6 14 rfl rfl (by decide) (by decide) (iw iT_6) rfl rfl (tw W_287) kv0 dX6_measure_101 ?_
          refine j_callV E [.int ((v3 - v4) - (1 : Int32)), .int (v3 - (1 : Int32)), .int (I24 v0 14)] [.int r13, .ref b25] (c_X8_effortOfMove (gL G) (gD G) (gY G) b26 ((v3 - v4) - (1 : Int32)) (v3 - (1 : Int32)) (I24 v0 14) Z I24 L19 _ hZ kb26 h) (gwV W_293 W_294 W_295 W_254 W_292) rfl ⟨rfl, fy_X8_effortOfMove⟩ ⟨by decide, by decide⟩ (c := 8) rfl (by decide) kb26 rfl rfl (Nat.le_of_ble_eq_true rfl) ⟨Nat.zero_le _, Nat.zero_le _⟩ dX6_measure_104 (fun v27 Z28 I29 L30 q31 => ?_)
          obtain ⟨rfl, r33, rfl, h⟩ := q31
          show jJ G 6 107 [(5, .int r13), (0, .ref v0), (2, .int v2), (3, .int v3), (4, .int v4)] [.int r33, .int r13, .ref b25] Z I29 L30 0 0
          obtain ⟨o34, h⟩ := h
          refine j_iast E kb25 (by rw [lb25]; exact o34) dX6_measure_107 ?_
          refine j_nmI (fun I35 eI35 => ?_)
          have h := h I35 eI35
          obtain ⟨x36, ex36⟩ : ∃ y : Int32, y = v4 + 1 := ⟨_, rfl⟩
          have h := h x36 ex36
          refine j_iinc E x36 [(4, .int x36), (5, .int r13), (0, .ref v0), (2, .int v2), (3, .int v3)] dX6_measure_108 4 rfl (by rw [ex36]; rfl) (by decide) rfl ?_
          refine j_goto E 22 dX6_measure_111 (by decide) ?_
          refine j_sub [2, 3, 4, 0] rfl ?_
          exact hK22 v0 v2 v3 x36 I35 L30 kv0 h
set_option maxRecDepth 100000 in
def f_X6_measure_L6  (Z : jZ) (Q : jI → jL → Prop) : Nat → Nat → Int32 → Int32 → jI → jL → Prop
  | 0 => fun _ _ _ _ _ => False
  | n + 1 => fun v0 v2 v3 I L => ((v2 < v3 → Q I L) ∧ (¬ (v2 < v3) → (((I v0 15) < v3 → Q I L) ∧ (¬ ((I v0 15) < v3) → (∃ m22 : Nat, f_X6_measure_L22 (f_X6_measure_L6 Z Q n) Z Q m22 v0 v2 v3 (1 : Int32) I L)))))
set_option maxHeartbeats 4000000 in
set_option maxRecDepth 100000 in
theorem m_X6_measure_L6 {G : jG} {Z : jZ} {Q : jI → jL → Prop} (E : jE G cX6_measure RX6 w_X6_measure 6 none { frames := 4, cells := 0, slots := 0, locals := 100 } (rtV Z Q)) (hZ : SH Z)  : ∀ (n : Nat) (v0 : Nat) (v2 : Int32) (v3 : Int32) (I : jI) (L : jL), jk Z v0 6 → f_X6_measure_L6  Z Q n v0 v2 v3 I L → jJ G 6 6 [(0, .ref v0), (2, .int v2), (3, .int v3)] [] Z I L 0 0 := by
  intro n
  induction n with
  | zero => intro v0 v2 v3 I L _ h; exact h.elim
  | succ n ih =>
    intro v0 v2 v3 I L kv0 h
    have h : ((v2 < v3 → Q I L) ∧ (¬ (v2 < v3) → (((I v0 15) < v3 → Q I L) ∧ (¬ ((I v0 15) < v3) → (∃ m22 : Nat, f_X6_measure_L22 (f_X6_measure_L6 Z Q n) Z Q m22 v0 v2 v3 (1 : Int32) I L))))) := h
    obtain ⟨K6, eK6⟩ : ∃ K : Nat → Int32 → Int32 → jI → jL → Prop, K = f_X6_measure_L6  Z Q n := ⟨_, rfl⟩
    have hK6 := ih
    clear eK6 K6
    generalize f_X6_measure_L6  Z Q n = K6 at hK6 h
    refine j_iload_n E dX6_measure_6 2 rfl ?_
    refine j_iload_n E dX6_measure_7 1 rfl ?_
    refine j_icmp_gt E 120 dX6_measure_8 (by decide) (fun c37 => ?_) (fun c37 => ?_)
    · have h := h.1 c37
      exact j_return E ⟨rfl, rfl, h⟩ (Nat.zero_le _) (Nat.zero_le _) dX6_measure_120
    · have h := h.2 c37
      refine j_iload_n E dX6_measure_11 2 rfl ?_
      refine j_aload_n E dX6_measure_12 0 rfl ?_
      refine j_geti E 6 15 rfl rfl (by decide) (by decide) (iw iT_6) rfl rfl (tw W_296) kv0 dX6_measure_13 ?_
      refine j_icmp_gt E 120 dX6_measure_16 (by decide) (fun c38 => ?_) (fun c38 => ?_)
      · have h := h.1 c38
        exact j_return E ⟨rfl, rfl, h⟩ (Nat.zero_le _) (Nat.zero_le _) dX6_measure_120
      · have h := h.2 c38
        refine j_iconst E (v := 1) dX6_measure_19 (by decide) ?_
        refine j_istore E 4 [(4, .int (1 : Int32)), (0, .ref v0), (2, .int v2), (3, .int v3)] dX6_measure_20 (by decide) rfl ?_
        obtain ⟨n39, h⟩ := h
        refine j_sub [1, 2, 3, 0] rfl ?_
        exact m_X6_measure_L22 E hZ K6 hK6 n39 v0 v2 v3 (1 : Int32) I L kv0 h
set_option maxRecDepth 100000 in
def f_X6_measure (v0 : Nat) (v1 : Int32) (v2 : Int32) (Z : jZ) (I : jI) (L : jL) (Q : jI → jL → Prop) : Prop := (∀ x40 : Int32, x40 = (if v1 < (1 : Int32) then (1 : Int32) else v1) → (∃ m6 : Nat, f_X6_measure_L6  Z Q m6 v0 v2 x40 I L))
set_option maxHeartbeats 4000000 in
set_option maxRecDepth 100000 in
theorem c_X6_measure (l : Launch) (D : va_G) (cy : jC) (v0 : Nat) (v1 : Int32) (v2 : Int32) (Z : jZ) (I : jI) (L : jL) (Q : jI → jL → Prop) (hZ : SH Z) (kv0 : jk Z v0 6) (h : f_X6_measure v0 v1 v2 Z I L Q) : jCt l yX6_measure w_X6_measure { frames := 4, cells := 0, slots := 0, locals := 100 } D cy [.ref v0, .int v1, .int v2] Z I L (rtV Z Q) := by
  refine jCt_of (cc := cX6_measure) (maxL := 6) (ret := none) (by decide +kernel) rfl (Nat.le_of_ble_eq_true rfl) ?_
  intro G eD eY eL E
  subst eD; subst eY; subst eL
  have E : jE G cX6_measure RX6 w_X6_measure 6 none { frames := 4, cells := 0, slots := 0, locals := 100 } (rtV Z Q) := E
  show jJ G 6 0 [(0, .ref v0), (1, .int v1), (2, .int v2)] [] Z I L 0 0
  refine j_iload_n E dX6_measure_0 1 rfl ?_
  refine j_iconst E (v := 1) dX6_measure_1 (by decide) ?_
  refine j_max E (tw W_297) (tw W_147) (tw W_8) (tw W_148) (Nat.le_of_ble_eq_true rfl) (Nat.le_of_ble_eq_true rfl) (Nat.zero_le _) (Nat.zero_le _) dX6_measure_2 ?_
  refine j_topi (fun x40 ex40 => ?_)
  have h := h x40 ex40
  refine j_istore_n E 3 [(3, .int x40), (0, .ref v0), (1, .int v1), (2, .int v2)] dX6_measure_5 rfl (by decide) rfl ?_
  obtain ⟨n41, h⟩ := h
  refine j_sub [1, 3, 0] rfl ?_
  exact m_X6_measure_L6 E hZ  n41 v0 v2 x40 I L kv0 h
set_option maxRecDepth 100000 in
def f_X6_leastEffortUp_b90 (K26 : Nat → Int32 → Int32 → Int32 → jI → jL → Prop) (Z : jZ) (Q : Int32 → jI → jL → Prop) (v0 : Nat) (v1 : Int32) (v2 : Int32) (v3 : Int32) (I : jI) (L : jL) : Prop := (∀ x1 : Int32, x1 = v3 + 1 → K26 v0 v1 v2 x1 I L)
set_option maxHeartbeats 4000000 in
set_option maxRecDepth 100000 in
theorem m_X6_leastEffortUp_b90 {G : jG} {Z : jZ} {Q : Int32 → jI → jL → Prop} (E : jE G cX6_leastEffortUp RX6 w_X6_leastEffortUp 4 (some .int) { frames := 1, cells := 0, slots := 0, locals := 23 } (rtI Z Q)) (hZ : SH Z) (K26 : Nat → Int32 → Int32 → Int32 → jI → jL → Prop) (hK26 : ∀ (v0 : Nat) (v1 : Int32) (v2 : Int32) (v3 : Int32) (I : jI) (L : jL), jk Z v0 6 → K26 v0 v1 v2 v3 I L → jJ G 4 26 [(0, .ref v0), (1, .int v1), (2, .int v2), (3, .int v3)] [] Z I L 0 0) (v0 : Nat) (v1 : Int32) (v2 : Int32) (v3 : Int32) (I : jI) (L : jL) (kv0 : jk Z v0 6) (h : f_X6_leastEffortUp_b90 K26 Z Q v0 v1 v2 v3 I L) : jJ G 4 90 [(0, .ref v0), (1, .int v1), (2, .int v2), (3, .int v3)] [] Z I L 0 0 := by
  obtain ⟨x1, ex1⟩ : ∃ y : Int32, y = v3 + 1 := ⟨_, rfl⟩
  have h := h x1 ex1
  refine j_iinc E x1 [(3, .int x1), (0, .ref v0), (1, .int v1), (2, .int v2)] dX6_leastEffortUp_90 3 rfl (by rw [ex1]; rfl) (by decide) rfl ?_
  refine j_goto E 26 dX6_leastEffortUp_93 (by decide) ?_
  refine j_sub [1, 2, 3, 0] rfl ?_
  exact hK26 v0 v1 v2 x1 I L kv0 h
set_option maxRecDepth 100000 in
def f_X6_leastEffortUp_L26  (Z : jZ) (Q : Int32 → jI → jL → Prop) : Nat → Nat → Int32 → Int32 → Int32 → jI → jL → Prop
  | 0 => fun _ _ _ _ _ _ => False
  | n + 1 => fun v0 v1 v2 v3 I L => (((I v0 3) < v3 → Q v2 I L) ∧ (¬ ((I v0 3) < v3) → (((I v0 15) < (v1 + v3) → Q v2 I L) ∧ (¬ ((I v0 15) < (v1 + v3)) → (∀ b4 : Nat, jr Z v0 6 = some b4 → (vp_in v1 25 ∧ (((I b4 v1.toNatClampNeg) = 0 → f_X6_leastEffortUp_b90 (f_X6_leastEffortUp_L26 Z Q n) Z Q v0 v1 v2 v3 I L) ∧ (¬ ((I b4 v1.toNatClampNeg) = 0) → (∀ b7 : Nat, jr Z v0 6 = some b7 → (vp_in (v1 + v3) 25 ∧ (((I b7 (v1 + v3).toNatClampNeg) = 0 → f_X6_leastEffortUp_b90 (f_X6_leastEffortUp_L26 Z Q n) Z Q v0 v1 v2 v3 I L) ∧ (¬ ((I b7 (v1 + v3).toNatClampNeg) = 0) → (∀ b10 : Nat, jr Z v0 5 = some b10 → (f_X6_moveTo (v1 + v3) v3 Z I L (fun r17 I13 L14 => (vp_in r17 75 ∧ (∀ b19 : Nat, jr Z v0 7 = some b19 → (vp_in (v1 + v3) 25 ∧ (∀ x21 : Int32, x21 = (if ((I13 b10 r17.toNatClampNeg) + (I13 b19 (v1 + v3).toNatClampNeg)) < v2 then ((I13 b10 r17.toNatClampNeg) + (I13 b19 (v1 + v3).toNatClampNeg)) else v2) → f_X6_leastEffortUp_b90 (f_X6_leastEffortUp_L26 Z Q n) Z Q v0 v1 x21 v3 I13 L14)))))))))))))))))))
set_option maxHeartbeats 4000000 in
set_option maxRecDepth 100000 in
theorem m_X6_leastEffortUp_L26 {G : jG} {Z : jZ} {Q : Int32 → jI → jL → Prop} (E : jE G cX6_leastEffortUp RX6 w_X6_leastEffortUp 4 (some .int) { frames := 1, cells := 0, slots := 0, locals := 23 } (rtI Z Q)) (hZ : SH Z)  : ∀ (n : Nat) (v0 : Nat) (v1 : Int32) (v2 : Int32) (v3 : Int32) (I : jI) (L : jL), jk Z v0 6 → f_X6_leastEffortUp_L26  Z Q n v0 v1 v2 v3 I L → jJ G 4 26 [(0, .ref v0), (1, .int v1), (2, .int v2), (3, .int v3)] [] Z I L 0 0 := by
  intro n
  induction n with
  | zero => intro v0 v1 v2 v3 I L _ h; exact h.elim
  | succ n ih =>
    intro v0 v1 v2 v3 I L kv0 h
    have h : (((I v0 3) < v3 → Q v2 I L) ∧ (¬ ((I v0 3) < v3) → (((I v0 15) < (v1 + v3) → Q v2 I L) ∧ (¬ ((I v0 15) < (v1 + v3)) → (∀ b4 : Nat, jr Z v0 6 = some b4 → (vp_in v1 25 ∧ (((I b4 v1.toNatClampNeg) = 0 → f_X6_leastEffortUp_b90 (f_X6_leastEffortUp_L26 Z Q n) Z Q v0 v1 v2 v3 I L) ∧ (¬ ((I b4 v1.toNatClampNeg) = 0) → (∀ b7 : Nat, jr Z v0 6 = some b7 → (vp_in (v1 + v3) 25 ∧ (((I b7 (v1 + v3).toNatClampNeg) = 0 → f_X6_leastEffortUp_b90 (f_X6_leastEffortUp_L26 Z Q n) Z Q v0 v1 v2 v3 I L) ∧ (¬ ((I b7 (v1 + v3).toNatClampNeg) = 0) → (∀ b10 : Nat, jr Z v0 5 = some b10 → (f_X6_moveTo (v1 + v3) v3 Z I L (fun r17 I13 L14 => (vp_in r17 75 ∧ (∀ b19 : Nat, jr Z v0 7 = some b19 → (vp_in (v1 + v3) 25 ∧ (∀ x21 : Int32, x21 = (if ((I13 b10 r17.toNatClampNeg) + (I13 b19 (v1 + v3).toNatClampNeg)) < v2 then ((I13 b10 r17.toNatClampNeg) + (I13 b19 (v1 + v3).toNatClampNeg)) else v2) → f_X6_leastEffortUp_b90 (f_X6_leastEffortUp_L26 Z Q n) Z Q v0 v1 x21 v3 I13 L14))))))))))))))))))) := h
    obtain ⟨K26, eK26⟩ : ∃ K : Nat → Int32 → Int32 → Int32 → jI → jL → Prop, K = f_X6_leastEffortUp_L26  Z Q n := ⟨_, rfl⟩
    have hK26 := ih
    clear eK26 K26
    generalize f_X6_leastEffortUp_L26  Z Q n = K26 at hK26 h
    refine j_iload_n E dX6_leastEffortUp_26 3 rfl ?_
    refine j_aload_n E dX6_leastEffortUp_27 0 rfl ?_
    refine j_geti E 6 3 rfl rfl (by decide) (by decide) (iw iT_6) rfl rfl (tw W_58) kv0 dX6_leastEffortUp_28 ?_
    refine j_icmp_gt E 96 dX6_leastEffortUp_31 (by decide) (fun c2 => ?_) (fun c2 => ?_)
    · have h := h.1 c2
      refine j_iload_n E dX6_leastEffortUp_96 2 rfl ?_
      exact j_ireturn E ⟨rfl, _, rfl, h⟩ (Nat.zero_le _) (Nat.zero_le _) dX6_leastEffortUp_97
    · have h := h.2 c2
      refine j_iload_n E dX6_leastEffortUp_34 1 rfl ?_
      refine j_iload_n E dX6_leastEffortUp_35 3 rfl ?_
      refine j_iadd E dX6_leastEffortUp_36 ?_
      refine j_aload_n E dX6_leastEffortUp_37 0 rfl ?_
      refine j_geti E 6 15 rfl rfl (by decide) (by decide) (iw iT_6) rfl rfl (tw W_296) kv0 dX6_leastEffortUp_38 ?_
      refine j_icmp_gt E 96 dX6_leastEffortUp_41 (by decide) (fun c3 => ?_) (fun c3 => ?_)
      · have h := h.1 c3
        refine j_iload_n E dX6_leastEffortUp_96 2 rfl ?_
        exact j_ireturn E ⟨rfl, _, rfl, h⟩ (Nat.zero_le _) (Nat.zero_le _) dX6_leastEffortUp_97
      · have h := h.2 c3
        refine j_aload_n E dX6_leastEffortUp_44 0 rfl ?_
        obtain ⟨b4, eb4, kb4, lb4⟩ := sh_f hZ kv0 (j := 6) (k := 16) (m := 25) rfl
        have h := h b4 eb4
        refine j_getr E 6 6 rfl rfl (by decide) (by decide) (iw iT_6) rfl rfl (tw W_59) kv0 eb4 dX6_leastEffortUp_45 ?_
        refine j_iload_n E dX6_leastEffortUp_48 1 rfl ?_
        obtain ⟨o5, h⟩ := h
        refine j_zald E kb4 (by rw [lb4]; exact o5) dX6_leastEffortUp_49 ?_
        refine j_if_eq E 90 dX6_leastEffortUp_50 (by decide) (fun c6 => ?_) (fun c6 => ?_)
        · have h := h.1 c6
          refine j_sub [0, 1, 2, 3] rfl ?_
          exact m_X6_leastEffortUp_b90 E hZ K26 hK26 v0 v1 v2 v3 I L kv0 h
        · have h := h.2 c6
          refine j_aload_n E dX6_leastEffortUp_53 0 rfl ?_
          obtain ⟨b7, eb7, kb7, lb7⟩ := sh_f hZ kv0 (j := 6) (k := 16) (m := 25) rfl
          have h := h b7 eb7
          refine j_getr E 6 6 rfl rfl (by decide) (by decide) (iw iT_6) rfl rfl (tw W_59) kv0 eb7 dX6_leastEffortUp_54 ?_
          refine j_iload_n E dX6_leastEffortUp_57 1 rfl ?_
          refine j_iload_n E dX6_leastEffortUp_58 3 rfl ?_
          refine j_iadd E dX6_leastEffortUp_59 ?_
          obtain ⟨o8, h⟩ := h
          refine j_zald E kb7 (by rw [lb7]; exact o8) dX6_leastEffortUp_60 ?_
          refine j_if_eq E 90 dX6_leastEffortUp_61 (by decide) (fun c9 => ?_) (fun c9 => ?_)
          · have h := h.1 c9
            refine j_sub [0, 1, 2, 3] rfl ?_
            exact m_X6_leastEffortUp_b90 E hZ K26 hK26 v0 v1 v2 v3 I L kv0 h
          · have h := h.2 c9
            refine j_iload_n E dX6_leastEffortUp_64 2 rfl ?_
            refine j_aload_n E dX6_leastEffortUp_65 0 rfl ?_
            obtain ⟨b10, eb10, kb10, lb10⟩ := sh_f hZ kv0 (j := 5) (k := 14) (m := 75) rfl
            have h := h b10 eb10
            refine j_getr E 6 5 rfl rfl (by decide) (by decide) (iw iT_6) rfl rfl (tw W_37) kv0 eb10 dX6_leastEffortUp_66 ?_
            refine j_iload_n E dX6_leastEffortUp_69 1 rfl ?_
            refine j_iload_n E dX6_leastEffortUp_70 3 rfl ?_
            refine j_iadd E dX6_leastEffortUp_71 ?_
            refine j_iload_n E dX6_leastEffortUp_72 3 rfl ?_
            refine j_callS E [.int (v1 + v3), .int v3] [.ref b10, .int v2] (c_X6_moveTo (gL G) (gD G) (gY G) (v1 + v3) v3 Z I L _ hZ  h) (gwS W_34 W_35 W_33 W_32) rfl fy_X6_moveTo ⟨by decide, by decide⟩ rfl rfl (Nat.le_of_ble_eq_true rfl) ⟨Nat.zero_le _, Nat.zero_le _⟩ dX6_leastEffortUp_73 (fun v11 Z12 I13 L14 q15 => ?_)
            obtain ⟨rfl, r17, rfl, h⟩ := q15
            show jJ G 4 76 [(0, .ref v0), (1, .int v1), (2, .int v2), (3, .int v3)] [.int r17, .ref b10, .int v2] Z I13 L14 0 0
            obtain ⟨o18, h⟩ := h
            refine j_iald E kb10 (by rw [lb10]; exact o18) dX6_leastEffortUp_76 ?_
            refine j_aload_n E dX6_leastEffortUp_77 0 rfl ?_
            obtain ⟨b19, eb19, kb19, lb19⟩ := sh_f hZ kv0 (j := 7) (k := 14) (m := 25) rfl
            have h := h b19 eb19
            refine j_getr E 6 7 rfl rfl (by decide) (by decide) (iw iT_6) rfl rfl (tw W_298) kv0 eb19 dX6_leastEffortUp_78 ?_
            refine j_iload_n E dX6_leastEffortUp_81 1 rfl ?_
            refine j_iload_n E dX6_leastEffortUp_82 3 rfl ?_
            refine j_iadd E dX6_leastEffortUp_83 ?_
            obtain ⟨o20, h⟩ := h
            refine j_iald E kb19 (by rw [lb19]; exact o20) dX6_leastEffortUp_84 ?_
            refine j_iadd E dX6_leastEffortUp_85 ?_
            refine j_min E (tw W_299) (tw W_7) (tw W_8) (tw W_9) (Nat.le_of_ble_eq_true rfl) (Nat.le_of_ble_eq_true rfl) (Nat.zero_le _) (Nat.zero_le _) dX6_leastEffortUp_86 ?_
            refine j_topi (fun x21 ex21 => ?_)
            have h := h x21 ex21
            refine j_istore_n E 2 [(2, .int x21), (0, .ref v0), (1, .int v1), (3, .int v3)] dX6_leastEffortUp_89 rfl (by decide) rfl ?_
            refine j_sub [1, 2, 0, 3] rfl ?_
            exact m_X6_leastEffortUp_b90 E hZ K26 hK26 v0 v1 x21 v3 I13 L14 kv0 h
set_option maxRecDepth 100000 in
def f_X6_leastEffortUp_b23  (Z : jZ) (Q : Int32 → jI → jL → Prop) (v0 : Nat) (v1 : Int32) (s0 : Int32) (I : jI) (L : jL) : Prop := (∃ m26 : Nat, f_X6_leastEffortUp_L26  Z Q m26 v0 v1 s0 (1 : Int32) I L)
set_option maxHeartbeats 4000000 in
set_option maxRecDepth 100000 in
theorem m_X6_leastEffortUp_b23 {G : jG} {Z : jZ} {Q : Int32 → jI → jL → Prop} (E : jE G cX6_leastEffortUp RX6 w_X6_leastEffortUp 4 (some .int) { frames := 1, cells := 0, slots := 0, locals := 23 } (rtI Z Q)) (hZ : SH Z)  (v0 : Nat) (v1 : Int32) (s0 : Int32) (I : jI) (L : jL) (kv0 : jk Z v0 6) (h : f_X6_leastEffortUp_b23  Z Q v0 v1 s0 I L) : jJ G 4 23 [(0, .ref v0), (1, .int v1)] [.int s0] Z I L 0 0 := by
  refine j_istore_n E 2 [(2, .int s0), (0, .ref v0), (1, .int v1)] dX6_leastEffortUp_23 rfl (by decide) rfl ?_
  refine j_iconst E (v := 1) dX6_leastEffortUp_24 (by decide) ?_
  refine j_istore_n E 3 [(3, .int (1 : Int32)), (2, .int s0), (0, .ref v0), (1, .int v1)] dX6_leastEffortUp_25 rfl (by decide) rfl ?_
  obtain ⟨n22, h⟩ := h
  refine j_sub [2, 3, 1, 0] rfl ?_
  exact m_X6_leastEffortUp_L26 E hZ  n22 v0 v1 s0 (1 : Int32) I L kv0 h
set_option maxRecDepth 100000 in
def f_X6_leastEffortUp_b21  (Z : jZ) (Q : Int32 → jI → jL → Prop) (v0 : Nat) (v1 : Int32) (I : jI) (L : jL) : Prop := f_X6_leastEffortUp_b23  Z Q v0 v1 (1048576 : Int32) I L
set_option maxHeartbeats 4000000 in
set_option maxRecDepth 100000 in
theorem m_X6_leastEffortUp_b21 {G : jG} {Z : jZ} {Q : Int32 → jI → jL → Prop} (E : jE G cX6_leastEffortUp RX6 w_X6_leastEffortUp 4 (some .int) { frames := 1, cells := 0, slots := 0, locals := 23 } (rtI Z Q)) (hZ : SH Z)  (v0 : Nat) (v1 : Int32) (I : jI) (L : jL) (kv0 : jk Z v0 6) (h : f_X6_leastEffortUp_b21  Z Q v0 v1 I L) : jJ G 4 21 [(0, .ref v0), (1, .int v1)] [] Z I L 0 0 := by
  refine j_ldc E (tw W_300) dX6_leastEffortUp_21 ?_
  refine j_sub [0, 1] rfl ?_
  exact m_X6_leastEffortUp_b23 E hZ  v0 v1 (1048576 : Int32) I L kv0 h
set_option maxRecDepth 100000 in
def f_X6_leastEffortUp (v0 : Nat) (v1 : Int32) (Z : jZ) (I : jI) (L : jL) (Q : Int32 → jI → jL → Prop) : Prop := ((¬ v1 = (I v0 15) → f_X6_leastEffortUp_b21  Z Q v0 v1 I L) ∧ (v1 = (I v0 15) → (∀ b24 : Nat, jr Z v0 6 = some b24 → (vp_in v1 25 ∧ (((I b24 v1.toNatClampNeg) = 0 → f_X6_leastEffortUp_b21  Z Q v0 v1 I L) ∧ (¬ ((I b24 v1.toNatClampNeg) = 0) → f_X6_leastEffortUp_b23  Z Q v0 v1 (0 : Int32) I L))))))
set_option maxHeartbeats 4000000 in
set_option maxRecDepth 100000 in
theorem c_X6_leastEffortUp (l : Launch) (D : va_G) (cy : jC) (v0 : Nat) (v1 : Int32) (Z : jZ) (I : jI) (L : jL) (Q : Int32 → jI → jL → Prop) (hZ : SH Z) (kv0 : jk Z v0 6) (h : f_X6_leastEffortUp v0 v1 Z I L Q) : jCt l yX6_leastEffortUp w_X6_leastEffortUp { frames := 1, cells := 0, slots := 0, locals := 23 } D cy [.ref v0, .int v1] Z I L (rtI Z Q) := by
  refine jCt_of (cc := cX6_leastEffortUp) (maxL := 4) (ret := (some .int)) (by decide +kernel) rfl (Nat.le_of_ble_eq_true rfl) ?_
  intro G eD eY eL E
  subst eD; subst eY; subst eL
  have E : jE G cX6_leastEffortUp RX6 w_X6_leastEffortUp 4 (some .int) { frames := 1, cells := 0, slots := 0, locals := 23 } (rtI Z Q) := E
  show jJ G 4 0 [(0, .ref v0), (1, .int v1)] [] Z I L 0 0
  refine j_iload_n E dX6_leastEffortUp_0 1 rfl ?_
  refine j_aload_n E dX6_leastEffortUp_1 0 rfl ?_
  refine j_geti E 6 15 rfl rfl (by decide) (by decide) (iw iT_6) rfl rfl (tw W_296) kv0 dX6_leastEffortUp_2 ?_
  refine j_icmp_ne E 21 dX6_leastEffortUp_5 (by decide) (fun c23 => ?_) (fun c23 => ?_)
  · have h := h.1 c23
    refine j_sub [0, 1] rfl ?_
    exact m_X6_leastEffortUp_b21 E hZ  v0 v1 I L kv0 h
  · have h := h.2 c23
    refine j_aload_n E dX6_leastEffortUp_8 0 rfl ?_
    obtain ⟨b24, eb24, kb24, lb24⟩ := sh_f hZ kv0 (j := 6) (k := 16) (m := 25) rfl
    have h := h b24 eb24
    refine j_getr E 6 6 rfl rfl (by decide) (by decide) (iw iT_6) rfl rfl (tw W_59) kv0 eb24 dX6_leastEffortUp_9 ?_
    refine j_iload_n E dX6_leastEffortUp_12 1 rfl ?_
    obtain ⟨o25, h⟩ := h
    refine j_zald E kb24 (by rw [lb24]; exact o25) dX6_leastEffortUp_13 ?_
    refine j_if_eq E 21 dX6_leastEffortUp_14 (by decide) (fun c26 => ?_) (fun c26 => ?_)
    · have h := h.1 c26
      refine j_sub [0, 1] rfl ?_
      exact m_X6_leastEffortUp_b21 E hZ  v0 v1 I L kv0 h
    · have h := h.2 c26
      refine j_iconst E (v := 0) dX6_leastEffortUp_17 (by decide) ?_
      refine j_goto E 23 dX6_leastEffortUp_18 (by decide) ?_
      refine j_sub [0, 1] rfl ?_
      exact m_X6_leastEffortUp_b23 E hZ  v0 v1 (0 : Int32) I L kv0 h
set_option maxRecDepth 100000 in
def f_X6_lay_L104  (Z : jZ) (Q : jI → jL → Prop) : Nat → Nat → Int32 → jI → jL → Prop
  | 0 => fun _ _ _ _ => False
  | n + 1 => fun v0 v4 I L => ((v4 < 0 → Q I L) ∧ (¬ (v4 < 0) → (∀ b2 : Nat, jr Z v0 7 = some b2 → (f_X6_leastEffortUp v0 v4 Z I L (fun r9 I5 L6 => (vp_in v4 25 ∧ (∀ I11 : jI, I11 = jpI I5 b2 v4.toNatClampNeg r9 → (∀ x12 : Int32, x12 = v4 + (-1) → (f_X6_lay_L104 Z Q n) v0 x12 I11 L6))))))))
set_option maxHeartbeats 4000000 in
set_option maxRecDepth 100000 in
theorem m_X6_lay_L104 {G : jG} {Z : jZ} {Q : jI → jL → Prop} (E : jE G cX6_lay RX6 w_X6_lay 6 none { frames := 5, cells := 0, slots := 0, locals := 125 } (rtV Z Q)) (hZ : SH Z)  : ∀ (n : Nat) (v0 : Nat) (v4 : Int32) (I : jI) (L : jL), jk Z v0 6 → f_X6_lay_L104  Z Q n v0 v4 I L → jJ G 6 104 [(0, .ref v0), (4, .int v4)] [] Z I L 0 0 := by
  intro n
  induction n with
  | zero => intro v0 v4 I L _ h; exact h.elim
  | succ n ih =>
    intro v0 v4 I L kv0 h
    have h : ((v4 < 0 → Q I L) ∧ (¬ (v4 < 0) → (∀ b2 : Nat, jr Z v0 7 = some b2 → (f_X6_leastEffortUp v0 v4 Z I L (fun r9 I5 L6 => (vp_in v4 25 ∧ (∀ I11 : jI, I11 = jpI I5 b2 v4.toNatClampNeg r9 → (∀ x12 : Int32, x12 = v4 + (-1) → (f_X6_lay_L104 Z Q n) v0 x12 I11 L6)))))))) := h
    obtain ⟨K104, eK104⟩ : ∃ K : Nat → Int32 → jI → jL → Prop, K = f_X6_lay_L104  Z Q n := ⟨_, rfl⟩
    have hK104 := ih
    clear eK104 K104
    generalize f_X6_lay_L104  Z Q n = K104 at hK104 h
    refine j_iload E dX6_lay_104 1 rfl ?_
    refine j_if_lt E 128 dX6_lay_106 (by decide) (fun c1 => ?_) (fun c1 => ?_)
    · have h := h.1 c1
      exact j_return E ⟨rfl, rfl, h⟩ (Nat.zero_le _) (Nat.zero_le _) dX6_lay_128
    · have h := h.2 c1
      refine j_aload_n E dX6_lay_109 0 rfl ?_
      obtain ⟨b2, eb2, kb2, lb2⟩ := sh_f hZ kv0 (j := 7) (k := 14) (m := 25) rfl
      have h := h b2 eb2
      refine j_getr E 6 7 rfl rfl (by decide) (by decide) (iw iT_6) rfl rfl (tw W_298) kv0 eb2 dX6_lay_110 ?_
      refine j_iload E dX6_lay_113 1 rfl ?_
      refine j_aload_n E dX6_lay_115 0 rfl ?_
      refine j_iload E dX6_lay_116 1 rfl ?_
      refine j_callV E [.int v4] [.int v4, .ref b2] (c_X6_leastEffortUp (gL G) (gD G) (gY G) v0 v4 Z I L _ hZ kv0 h) (gwV W_302 W_303 W_304 W_33 W_301) rfl ⟨rfl, fy_X6_leastEffortUp⟩ ⟨by decide, by decide⟩ (c := 6) rfl (by decide) kv0 rfl rfl (Nat.le_of_ble_eq_true rfl) ⟨Nat.zero_le _, Nat.zero_le _⟩ dX6_lay_118 (fun v3 Z4 I5 L6 q7 => ?_)
      obtain ⟨rfl, r9, rfl, h⟩ := q7
      show jJ G 6 121 [(0, .ref v0), (4, .int v4)] [.int r9, .int v4, .ref b2] Z I5 L6 0 0
      obtain ⟨o10, h⟩ := h
      refine j_iast E kb2 (by rw [lb2]; exact o10) dX6_lay_121 ?_
      refine j_nmI (fun I11 eI11 => ?_)
      have h := h I11 eI11
      obtain ⟨x12, ex12⟩ : ∃ y : Int32, y = v4 + (-1) := ⟨_, rfl⟩
      have h := h x12 ex12
      refine j_iinc E x12 [(4, .int x12), (0, .ref v0)] dX6_lay_122 1 rfl (by rw [ex12]; rfl) (by decide) rfl ?_
      refine j_goto E 104 dX6_lay_125 (by decide) ?_
      refine j_sub [1, 0] rfl ?_
      exact hK104 v0 x12 I11 L6 kv0 h
set_option maxRecDepth 100000 in
def f_X6_lay_b82 (K31 : Nat → Int32 → Int32 → Int32 → jI → jL → Prop) (Z : jZ) (Q : jI → jL → Prop) (v0 : Nat) (v2 : Int32) (v3 : Int32) (v4 : Int32) (s0 : Nat) (s1 : Int32) (s2 : Int32) (I : jI) (L : jL) : Prop := (vp_in s1 (jlen Z s0) ∧ (∀ I14 : jI, I14 = jpI I s0 s1.toNatClampNeg (vp_nar .boolean s2) → (∀ x15 : Int32, x15 = v4 + 1 → K31 v0 v2 v3 x15 I14 L)))
set_option maxHeartbeats 4000000 in
set_option maxRecDepth 100000 in
theorem m_X6_lay_b82 {G : jG} {Z : jZ} {Q : jI → jL → Prop} (E : jE G cX6_lay RX6 w_X6_lay 6 none { frames := 5, cells := 0, slots := 0, locals := 125 } (rtV Z Q)) (hZ : SH Z) (K31 : Nat → Int32 → Int32 → Int32 → jI → jL → Prop) (hK31 : ∀ (v0 : Nat) (v2 : Int32) (v3 : Int32) (v4 : Int32) (I : jI) (L : jL), jk Z v0 6 → K31 v0 v2 v3 v4 I L → jJ G 6 31 [(0, .ref v0), (2, .int v2), (3, .int v3), (4, .int v4)] [] Z I L 0 0) (v0 : Nat) (v2 : Int32) (v3 : Int32) (v4 : Int32) (s0 : Nat) (s1 : Int32) (s2 : Int32) (I : jI) (L : jL) (kv0 : jk Z v0 6) (ks0 : jk Z s0 16) (h : f_X6_lay_b82 K31 Z Q v0 v2 v3 v4 s0 s1 s2 I L) : jJ G 6 82 [(0, .ref v0), (2, .int v2), (3, .int v3), (4, .int v4)] [.int s2, .int s1, .ref s0] Z I L 0 0 := by
  obtain ⟨o13, h⟩ := h
  refine j_zast E ks0 o13 dX6_lay_82 ?_
  refine j_nmI (fun I14 eI14 => ?_)
  have h := h I14 eI14
  obtain ⟨x15, ex15⟩ : ∃ y : Int32, y = v4 + 1 := ⟨_, rfl⟩
  have h := h x15 ex15
  refine j_iinc E x15 [(4, .int x15), (0, .ref v0), (2, .int v2), (3, .int v3)] dX6_lay_83 3 rfl (by rw [ex15]; rfl) (by decide) rfl ?_
  refine j_goto E 31 dX6_lay_86 (by decide) ?_
  refine j_sub [1, 2, 3, 0] rfl ?_
  exact hK31 v0 v2 v3 x15 I14 L kv0 h
set_option maxRecDepth 100000 in
def f_X6_lay_b81 (K31 : Nat → Int32 → Int32 → Int32 → jI → jL → Prop) (Z : jZ) (Q : jI → jL → Prop) (v0 : Nat) (v2 : Int32) (v3 : Int32) (v4 : Int32) (s0 : Nat) (s1 : Int32) (I : jI) (L : jL) : Prop := f_X6_lay_b82 K31 Z Q v0 v2 v3 v4 s0 s1 (0 : Int32) I L
set_option maxHeartbeats 4000000 in
set_option maxRecDepth 100000 in
theorem m_X6_lay_b81 {G : jG} {Z : jZ} {Q : jI → jL → Prop} (E : jE G cX6_lay RX6 w_X6_lay 6 none { frames := 5, cells := 0, slots := 0, locals := 125 } (rtV Z Q)) (hZ : SH Z) (K31 : Nat → Int32 → Int32 → Int32 → jI → jL → Prop) (hK31 : ∀ (v0 : Nat) (v2 : Int32) (v3 : Int32) (v4 : Int32) (I : jI) (L : jL), jk Z v0 6 → K31 v0 v2 v3 v4 I L → jJ G 6 31 [(0, .ref v0), (2, .int v2), (3, .int v3), (4, .int v4)] [] Z I L 0 0) (v0 : Nat) (v2 : Int32) (v3 : Int32) (v4 : Int32) (s0 : Nat) (s1 : Int32) (I : jI) (L : jL) (kv0 : jk Z v0 6) (ks0 : jk Z s0 16) (h : f_X6_lay_b81 K31 Z Q v0 v2 v3 v4 s0 s1 I L) : jJ G 6 81 [(0, .ref v0), (2, .int v2), (3, .int v3), (4, .int v4)] [.int s1, .ref s0] Z I L 0 0 := by
  refine j_iconst E (v := 0) dX6_lay_81 (by decide) ?_
  refine j_sub [0, 1, 2, 3] rfl ?_
  exact m_X6_lay_b82 E hZ K31 hK31 v0 v2 v3 v4 s0 s1 (0 : Int32) I L kv0 ks0 h
set_option maxRecDepth 100000 in
def f_X6_lay_L31  (Z : jZ) (Q : jI → jL → Prop) : Nat → Nat → Int32 → Int32 → Int32 → jI → jL → Prop
  | 0 => fun _ _ _ _ _ _ => False
  | n + 1 => fun v0 v2 v3 v4 I L => (((I v0 15) < v4 → (f_X6_measure v0 (1 : Int32) (I v0 15) Z I L (fun I19 L20 => (∀ x23 : Int32, x23 = (I19 v0 15) → (∃ m104 : Nat, f_X6_lay_L104  Z Q m104 v0 x23 I19 L20))))) ∧ (¬ ((I v0 15) < v4) → (∀ x25 : Int32, x25 = (v4 - (1 : Int32)) → (∀ b26 : Nat, jr Z v0 6 = some b26 → ((x25 = v3 → f_X6_lay_b81 (f_X6_lay_L31 Z Q n) Z Q v0 v2 v3 v4 b26 v4 I L) ∧ (¬ (x25 = v3) → (∀ b28 : Nat, jr Z v0 0 = some b28 → (∀ b29 : Nat, jr Z b28 4 = some b29 → (f_X4_mainOf b29 x25 Z I L (fun r36 I32 L33 => ((¬ ((v2 >>> (r36 &&& 31)) &&& (1 : Int32)) = 0 → f_X6_lay_b81 (f_X6_lay_L31 Z Q n) Z Q v0 v2 v3 v4 b26 v4 I32 L33) ∧ (((v2 >>> (r36 &&& 31)) &&& (1 : Int32)) = 0 → f_X6_lay_b82 (f_X6_lay_L31 Z Q n) Z Q v0 v2 v3 v4 b26 v4 (1 : Int32) I32 L33))))))))))))
set_option maxHeartbeats 4000000 in
set_option maxRecDepth 100000 in
theorem m_X6_lay_L31 {G : jG} {Z : jZ} {Q : jI → jL → Prop} (E : jE G cX6_lay RX6 w_X6_lay 6 none { frames := 5, cells := 0, slots := 0, locals := 125 } (rtV Z Q)) (hZ : SH Z)  : ∀ (n : Nat) (v0 : Nat) (v2 : Int32) (v3 : Int32) (v4 : Int32) (I : jI) (L : jL), jk Z v0 6 → f_X6_lay_L31  Z Q n v0 v2 v3 v4 I L → jJ G 6 31 [(0, .ref v0), (2, .int v2), (3, .int v3), (4, .int v4)] [] Z I L 0 0 := by
  intro n
  induction n with
  | zero => intro v0 v2 v3 v4 I L _ h; exact h.elim
  | succ n ih =>
    intro v0 v2 v3 v4 I L kv0 h
    have h : (((I v0 15) < v4 → (f_X6_measure v0 (1 : Int32) (I v0 15) Z I L (fun I19 L20 => (∀ x23 : Int32, x23 = (I19 v0 15) → (∃ m104 : Nat, f_X6_lay_L104  Z Q m104 v0 x23 I19 L20))))) ∧ (¬ ((I v0 15) < v4) → (∀ x25 : Int32, x25 = (v4 - (1 : Int32)) → (∀ b26 : Nat, jr Z v0 6 = some b26 → ((x25 = v3 → f_X6_lay_b81 (f_X6_lay_L31 Z Q n) Z Q v0 v2 v3 v4 b26 v4 I L) ∧ (¬ (x25 = v3) → (∀ b28 : Nat, jr Z v0 0 = some b28 → (∀ b29 : Nat, jr Z b28 4 = some b29 → (f_X4_mainOf b29 x25 Z I L (fun r36 I32 L33 => ((¬ ((v2 >>> (r36 &&& 31)) &&& (1 : Int32)) = 0 → f_X6_lay_b81 (f_X6_lay_L31 Z Q n) Z Q v0 v2 v3 v4 b26 v4 I32 L33) ∧ (((v2 >>> (r36 &&& 31)) &&& (1 : Int32)) = 0 → f_X6_lay_b82 (f_X6_lay_L31 Z Q n) Z Q v0 v2 v3 v4 b26 v4 (1 : Int32) I32 L33)))))))))))) := h
    obtain ⟨K31, eK31⟩ : ∃ K : Nat → Int32 → Int32 → Int32 → jI → jL → Prop, K = f_X6_lay_L31  Z Q n := ⟨_, rfl⟩
    have hK31 := ih
    clear eK31 K31
    generalize f_X6_lay_L31  Z Q n = K31 at hK31 h
    refine j_iload E dX6_lay_31 3 rfl ?_
    refine j_aload_n E dX6_lay_33 0 rfl ?_
    refine j_geti E 6 15 rfl rfl (by decide) (by decide) (iw iT_6) rfl rfl (tw W_296) kv0 dX6_lay_34 ?_
    refine j_icmp_gt E 89 dX6_lay_37 (by decide) (fun c16 => ?_) (fun c16 => ?_)
    · have h := h.1 c16
      refine j_aload_n E dX6_lay_89 0 rfl ?_
      refine j_iconst E (v := 1) dX6_lay_90 (by decide) ?_
      refine j_aload_n E dX6_lay_91 0 rfl ?_
      refine j_geti E 6 15 rfl rfl (by decide) (by decide) (iw iT_6) rfl rfl (tw W_296) kv0 dX6_lay_92 ?_
      refine j_callV E [.int (1 : Int32), .int (I v0 15)] [] (c_X6_measure (gL G) (gD G) (gY G) v0 (1 : Int32) (I v0 15) Z I L _ hZ kv0 h) (gwV W_306 W_307 W_308 W_33 W_305) rfl ⟨rfl, fy_X6_measure⟩ ⟨by decide, by decide⟩ (c := 6) rfl (by decide) kv0 rfl rfl (Nat.le_of_ble_eq_true rfl) ⟨Nat.zero_le _, Nat.zero_le _⟩ dX6_lay_95 (fun v17 Z18 I19 L20 q21 => ?_)
      obtain ⟨rfl, rfl, h⟩ := q21
      show jJ G 6 98 [(0, .ref v0), (2, .int v2), (3, .int v3), (4, .int v4)] [] Z I19 L20 0 0
      refine j_aload_n E dX6_lay_98 0 rfl ?_
      refine j_geti E 6 15 rfl rfl (by decide) (by decide) (iw iT_6) rfl rfl (tw W_296) kv0 dX6_lay_99 ?_
      refine j_topi (fun x23 ex23 => ?_)
      have h := h x23 ex23
      refine j_istore E 4 [(4, .int x23), (0, .ref v0), (2, .int v2), (3, .int v3)] dX6_lay_102 (by decide) rfl ?_
      obtain ⟨n24, h⟩ := h
      refine j_sub [1, 0] rfl ?_
      exact m_X6_lay_L104 E hZ  n24 v0 x23 I19 L20 kv0 h
    · have h := h.2 c16
      refine j_iload E dX6_lay_40 3 rfl ?_
      refine j_iconst E (v := 1) dX6_lay_42 (by decide) ?_
      refine j_isub E dX6_lay_43 ?_
      refine j_topi (fun x25 ex25 => ?_)
      have h := h x25 ex25
      refine j_istore E 5 [(5, .int x25), (0, .ref v0), (2, .int v2), (3, .int v3), (4, .int v4)] dX6_lay_44 (by decide) rfl ?_
      refine j_aload_n E dX6_lay_46 1 rfl ?_
      obtain ⟨b26, eb26, kb26, lb26⟩ := sh_f hZ kv0 (j := 6) (k := 16) (m := 25) rfl
      have h := h b26 eb26
      refine j_getr E 6 6 rfl rfl (by decide) (by decide) (iw iT_6) rfl rfl (tw W_59) kv0 eb26 dX6_lay_47 ?_
      refine j_iload E dX6_lay_50 4 rfl ?_
      refine j_iload E dX6_lay_52 0 rfl ?_
      refine j_iload_n E dX6_lay_54 3 rfl ?_
      refine j_icmp_eq E 81 dX6_lay_55 (by decide) (fun c27 => ?_) (fun c27 => ?_)
      · have h := h.1 c27
        refine j_sub [1, 2, 3, 4] rfl ?_
        exact m_X6_lay_b81 E hZ K31 hK31 v0 v2 v3 v4 b26 v4 I L kv0 kb26 h
      · have h := h.2 c27
        refine j_iload_n E dX6_lay_58 2 rfl ?_
        refine j_aload_n E dX6_lay_59 1 rfl ?_
        obtain ⟨b28, eb28, kb28⟩ := sh_o hZ kv0 (j := 0) (k := 8) rfl
        have h := h b28 eb28
        refine j_getr E 6 0 rfl rfl (by decide) (by decide) (iw iT_6) rfl rfl (tw W_286) kv0 eb28 dX6_lay_60 ?_
        obtain ⟨b29, eb29, kb29⟩ := sh_o hZ kb28 (j := 4) (k := 4) rfl
        have h := h b29 eb29
        refine j_getrN E 8 4 rfl rfl (by decide) (by decide) (iw iT_8) rfl rfl (nw_8_4_X6_79) kb28 eb29 dX6_lay_63 ?_
        refine j_iload E dX6_lay_66 0 rfl ?_
        refine j_callV E [.int x25] [.int v2, .int v4, .ref b26] (c_X4_mainOf (gL G) (gD G) (gY G) b29 x25 Z I L _ hZ kb29 h) (gwV W_309 W_265 W_266 W_160 W_263) rfl ⟨rfl, fy_X4_mainOf⟩ ⟨by decide, by decide⟩ (c := 4) rfl (by decide) kb29 rfl rfl (Nat.le_of_ble_eq_true rfl) ⟨Nat.zero_le _, Nat.zero_le _⟩ dX6_lay_68 (fun v30 Z31 I32 L33 q34 => ?_)
        obtain ⟨rfl, r36, rfl, h⟩ := q34
        show jJ G 6 71 [(5, .int x25), (0, .ref v0), (2, .int v2), (3, .int v3), (4, .int v4)] [.int r36, .int v2, .int v4, .ref b26] Z I32 L33 0 0
        refine j_ishr E dX6_lay_71 ?_
        refine j_iconst E (v := 1) dX6_lay_72 (by decide) ?_
        refine j_iand E dX6_lay_73 ?_
        refine j_if_ne E 81 dX6_lay_74 (by decide) (fun c37 => ?_) (fun c37 => ?_)
        · have h := h.1 c37
          refine j_sub [1, 2, 3, 4] rfl ?_
          exact m_X6_lay_b81 E hZ K31 hK31 v0 v2 v3 v4 b26 v4 I32 L33 kv0 kb26 h
        · have h := h.2 c37
          refine j_iconst E (v := 1) dX6_lay_77 (by decide) ?_
          refine j_goto E 82 dX6_lay_78 (by decide) ?_
          refine j_sub [1, 2, 3, 4] rfl ?_
          exact m_X6_lay_b82 E hZ K31 hK31 v0 v2 v3 v4 b26 v4 (1 : Int32) I32 L33 kv0 kb26 h
set_option maxRecDepth 100000 in
def f_X6_lay (v0 : Nat) (v1 : Int32) (v2 : Int32) (v3 : Int32) (Z : jZ) (I : jI) (L : jL) (Q : jI → jL → Prop) : Prop := (∀ I38 : jI, I38 = jpI I v0 14 v1 → (∀ b39 : Nat, jr Z v0 0 = some b39 → (∀ I40 : jI, I40 = jpI I38 v0 15 (if (24 : Int32) < (I38 b39 9) then (24 : Int32) else (I38 b39 9)) → (∀ b41 : Nat, jr Z v0 6 = some b41 → (∀ I42 : jI, I42 = jpI I40 b41 (0 : Int32).toNatClampNeg (vp_nar .boolean (1 : Int32)) → (∃ m31 : Nat, f_X6_lay_L31  Z Q m31 v0 v2 v3 (1 : Int32) I42 L))))))
set_option maxHeartbeats 4000000 in
set_option maxRecDepth 100000 in
theorem c_X6_lay (l : Launch) (D : va_G) (cy : jC) (v0 : Nat) (v1 : Int32) (v2 : Int32) (v3 : Int32) (Z : jZ) (I : jI) (L : jL) (Q : jI → jL → Prop) (hZ : SH Z) (kv0 : jk Z v0 6) (h : f_X6_lay v0 v1 v2 v3 Z I L Q) : jCt l yX6_lay w_X6_lay { frames := 5, cells := 0, slots := 0, locals := 125 } D cy [.ref v0, .int v1, .int v2, .int v3] Z I L (rtV Z Q) := by
  refine jCt_of (cc := cX6_lay) (maxL := 6) (ret := none) (by decide +kernel) rfl (Nat.le_of_ble_eq_true rfl) ?_
  intro G eD eY eL E
  subst eD; subst eY; subst eL
  have E : jE G cX6_lay RX6 w_X6_lay 6 none { frames := 5, cells := 0, slots := 0, locals := 125 } (rtV Z Q) := E
  show jJ G 6 0 [(0, .ref v0), (1, .int v1), (2, .int v2), (3, .int v3)] [] Z I L 0 0
  refine j_aload_n E dX6_lay_0 0 rfl ?_
  refine j_iload_n E dX6_lay_1 1 rfl ?_
  refine j_puti E 6 14 rfl rfl (by decide) (by decide) (iw iT_6) tyX6_ok nmX6 rfl rfl (tw W_287) rfl rfl rfl kv0 dX6_lay_2 ?_
  refine j_nmI (fun I38 eI38 => ?_)
  have h := h I38 eI38
  refine j_aload_n E dX6_lay_5 0 rfl ?_
  refine j_aload_n E dX6_lay_6 0 rfl ?_
  obtain ⟨b39, eb39, kb39⟩ := sh_o hZ kv0 (j := 0) (k := 8) rfl
  have h := h b39 eb39
  refine j_getr E 6 0 rfl rfl (by decide) (by decide) (iw iT_6) rfl rfl (tw W_286) kv0 eb39 dX6_lay_7 ?_
  refine j_getiN E 8 9 rfl rfl (by decide) (by decide) (iw iT_8) rfl rfl (nw_8_9_X6_68) kb39 dX6_lay_10 ?_
  refine j_bipush E (v := 24) dX6_lay_13 (by decide) ?_
  refine j_min E (tw W_299) (tw W_7) (tw W_8) (tw W_9) (Nat.le_of_ble_eq_true rfl) (Nat.le_of_ble_eq_true rfl) (Nat.zero_le _) (Nat.zero_le _) dX6_lay_15 ?_
  refine j_puti E 6 15 rfl rfl (by decide) (by decide) (iw iT_6) tyX6_ok nmX6 rfl rfl (tw W_296) rfl rfl rfl kv0 dX6_lay_18 ?_
  refine j_nmI (fun I40 eI40 => ?_)
  have h := h I40 eI40
  refine j_aload_n E dX6_lay_21 0 rfl ?_
  obtain ⟨b41, eb41, kb41, lb41⟩ := sh_f hZ kv0 (j := 6) (k := 16) (m := 25) rfl
  have h := h b41 eb41
  refine j_getr E 6 6 rfl rfl (by decide) (by decide) (iw iT_6) rfl rfl (tw W_59) kv0 eb41 dX6_lay_22 ?_
  refine j_iconst E (v := 0) dX6_lay_25 (by decide) ?_
  refine j_iconst E (v := 1) dX6_lay_26 (by decide) ?_
  refine j_zast E kb41 (by rw [lb41]; exact vp_in_lit (by decide)) dX6_lay_27 ?_
  refine j_nmI (fun I42 eI42 => ?_)
  have h := h I42 eI42
  refine j_iconst E (v := 1) dX6_lay_28 (by decide) ?_
  refine j_istore E 4 [(4, .int (1 : Int32)), (0, .ref v0), (1, .int v1), (2, .int v2), (3, .int v3)] dX6_lay_29 (by decide) rfl ?_
  obtain ⟨n43, h⟩ := h
  refine j_sub [1, 3, 4, 0] rfl ?_
  exact m_X6_lay_L31 E hZ  n43 v0 v2 v3 (1 : Int32) I42 L kv0 h
set_option maxRecDepth 100000 in
def f_X6_leastEffortFrom_L13  (Z : jZ) (Q : Int32 → jI → jL → Prop) : Nat → Nat → Int32 → Int32 → Int32 → jI → jL → Prop
  | 0 => fun _ _ _ _ _ _ => False
  | n + 1 => fun v0 v1 v2 v3 I L => (((I v0 3) < v3 → Q v2 I L) ∧ (¬ ((I v0 3) < v3) → ((v1 < v3 → Q v2 I L) ∧ (¬ (v1 < v3) → (∀ b3 : Nat, jr Z v0 6 = some b3 → (vp_in v1 25 ∧ (((I b3 v1.toNatClampNeg) = 0 → Q v2 I L) ∧ (¬ ((I b3 v1.toNatClampNeg) = 0) → (∀ b6 : Nat, jr Z v0 5 = some b6 → (f_X6_moveTo v1 v3 Z I L (fun r13 I9 L10 => (vp_in r13 75 ∧ (∀ b15 : Nat, jr Z v0 8 = some b15 → (vp_in (v1 - v3) 25 ∧ (∀ x17 : Int32, x17 = (if ((I9 b6 r13.toNatClampNeg) + (I9 b15 (v1 - v3).toNatClampNeg)) < v2 then ((I9 b6 r13.toNatClampNeg) + (I9 b15 (v1 - v3).toNatClampNeg)) else v2) → (∀ x18 : Int32, x18 = v3 + 1 → (f_X6_leastEffortFrom_L13 Z Q n) v0 v1 x17 x18 I9 L10))))))))))))))))
set_option maxHeartbeats 4000000 in
set_option maxRecDepth 100000 in
theorem m_X6_leastEffortFrom_L13 {G : jG} {Z : jZ} {Q : Int32 → jI → jL → Prop} (E : jE G cX6_leastEffortFrom RX6 w_X6_leastEffortFrom 4 (some .int) { frames := 1, cells := 0, slots := 0, locals := 23 } (rtI Z Q)) (hZ : SH Z)  : ∀ (n : Nat) (v0 : Nat) (v1 : Int32) (v2 : Int32) (v3 : Int32) (I : jI) (L : jL), jk Z v0 6 → f_X6_leastEffortFrom_L13  Z Q n v0 v1 v2 v3 I L → jJ G 4 13 [(0, .ref v0), (1, .int v1), (2, .int v2), (3, .int v3)] [] Z I L 0 0 := by
  intro n
  induction n with
  | zero => intro v0 v1 v2 v3 I L _ h; exact h.elim
  | succ n ih =>
    intro v0 v1 v2 v3 I L kv0 h
    have h : (((I v0 3) < v3 → Q v2 I L) ∧ (¬ ((I v0 3) < v3) → ((v1 < v3 → Q v2 I L) ∧ (¬ (v1 < v3) → (∀ b3 : Nat, jr Z v0 6 = some b3 → (vp_in v1 25 ∧ (((I b3 v1.toNatClampNeg) = 0 → Q v2 I L) ∧ (¬ ((I b3 v1.toNatClampNeg) = 0) → (∀ b6 : Nat, jr Z v0 5 = some b6 → (f_X6_moveTo v1 v3 Z I L (fun r13 I9 L10 => (vp_in r13 75 ∧ (∀ b15 : Nat, jr Z v0 8 = some b15 → (vp_in (v1 - v3) 25 ∧ (∀ x17 : Int32, x17 = (if ((I9 b6 r13.toNatClampNeg) + (I9 b15 (v1 - v3).toNatClampNeg)) < v2 then ((I9 b6 r13.toNatClampNeg) + (I9 b15 (v1 - v3).toNatClampNeg)) else v2) → (∀ x18 : Int32, x18 = v3 + 1 → (f_X6_leastEffortFrom_L13 Z Q n) v0 v1 x17 x18 I9 L10)))))))))))))))) := h
    obtain ⟨K13, eK13⟩ : ∃ K : Nat → Int32 → Int32 → Int32 → jI → jL → Prop, K = f_X6_leastEffortFrom_L13  Z Q n := ⟨_, rfl⟩
    have hK13 := ih
    clear eK13 K13
    generalize f_X6_leastEffortFrom_L13  Z Q n = K13 at hK13 h
    refine j_iload_n E dX6_leastEffortFrom_13 3 rfl ?_
    refine j_aload_n E dX6_leastEffortFrom_14 0 rfl ?_
    refine j_geti E 6 3 rfl rfl (by decide) (by decide) (iw iT_6) rfl rfl (tw W_58) kv0 dX6_leastEffortFrom_15 ?_
    refine j_icmp_gt E 65 dX6_leastEffortFrom_18 (by decide) (fun c1 => ?_) (fun c1 => ?_)
    · have h := h.1 c1
      refine j_iload_n E dX6_leastEffortFrom_65 2 rfl ?_
      exact j_ireturn E ⟨rfl, _, rfl, h⟩ (Nat.zero_le _) (Nat.zero_le _) dX6_leastEffortFrom_66
    · have h := h.2 c1
      refine j_iload_n E dX6_leastEffortFrom_21 3 rfl ?_
      refine j_iload_n E dX6_leastEffortFrom_22 1 rfl ?_
      refine j_icmp_gt E 65 dX6_leastEffortFrom_23 (by decide) (fun c2 => ?_) (fun c2 => ?_)
      · have h := h.1 c2
        refine j_iload_n E dX6_leastEffortFrom_65 2 rfl ?_
        exact j_ireturn E ⟨rfl, _, rfl, h⟩ (Nat.zero_le _) (Nat.zero_le _) dX6_leastEffortFrom_66
      · have h := h.2 c2
        refine j_aload_n E dX6_leastEffortFrom_26 0 rfl ?_
        obtain ⟨b3, eb3, kb3, lb3⟩ := sh_f hZ kv0 (j := 6) (k := 16) (m := 25) rfl
        have h := h b3 eb3
        refine j_getr E 6 6 rfl rfl (by decide) (by decide) (iw iT_6) rfl rfl (tw W_59) kv0 eb3 dX6_leastEffortFrom_27 ?_
        refine j_iload_n E dX6_leastEffortFrom_30 1 rfl ?_
        obtain ⟨o4, h⟩ := h
        refine j_zald E kb3 (by rw [lb3]; exact o4) dX6_leastEffortFrom_31 ?_
        refine j_if_eq E 65 dX6_leastEffortFrom_32 (by decide) (fun c5 => ?_) (fun c5 => ?_)
        · have h := h.1 c5
          refine j_iload_n E dX6_leastEffortFrom_65 2 rfl ?_
          exact j_ireturn E ⟨rfl, _, rfl, h⟩ (Nat.zero_le _) (Nat.zero_le _) dX6_leastEffortFrom_66
        · have h := h.2 c5
          refine j_iload_n E dX6_leastEffortFrom_35 2 rfl ?_
          refine j_aload_n E dX6_leastEffortFrom_36 0 rfl ?_
          obtain ⟨b6, eb6, kb6, lb6⟩ := sh_f hZ kv0 (j := 5) (k := 14) (m := 75) rfl
          have h := h b6 eb6
          refine j_getr E 6 5 rfl rfl (by decide) (by decide) (iw iT_6) rfl rfl (tw W_37) kv0 eb6 dX6_leastEffortFrom_37 ?_
          refine j_iload_n E dX6_leastEffortFrom_40 1 rfl ?_
          refine j_iload_n E dX6_leastEffortFrom_41 3 rfl ?_
          refine j_callS E [.int v1, .int v3] [.ref b6, .int v2] (c_X6_moveTo (gL G) (gD G) (gY G) v1 v3 Z I L _ hZ  h) (gwS W_34 W_35 W_33 W_32) rfl fy_X6_moveTo ⟨by decide, by decide⟩ rfl rfl (Nat.le_of_ble_eq_true rfl) ⟨Nat.zero_le _, Nat.zero_le _⟩ dX6_leastEffortFrom_42 (fun v7 Z8 I9 L10 q11 => ?_)
          obtain ⟨rfl, r13, rfl, h⟩ := q11
          show jJ G 4 45 [(0, .ref v0), (1, .int v1), (2, .int v2), (3, .int v3)] [.int r13, .ref b6, .int v2] Z I9 L10 0 0
          obtain ⟨o14, h⟩ := h
          refine j_iald E kb6 (by rw [lb6]; exact o14) dX6_leastEffortFrom_45 ?_
          refine j_aload_n E dX6_leastEffortFrom_46 0 rfl ?_
          obtain ⟨b15, eb15, kb15, lb15⟩ := sh_f hZ kv0 (j := 8) (k := 14) (m := 25) rfl
          have h := h b15 eb15
          refine j_getr E 6 8 rfl rfl (by decide) (by decide) (iw iT_6) rfl rfl (tw W_310) kv0 eb15 dX6_leastEffortFrom_47 ?_
          refine j_iload_n E dX6_leastEffortFrom_50 1 rfl ?_
          refine j_iload_n E dX6_leastEffortFrom_51 3 rfl ?_
          refine j_isub E dX6_leastEffortFrom_52 ?_
          obtain ⟨o16, h⟩ := h
          refine j_iald E kb15 (by rw [lb15]; exact o16) dX6_leastEffortFrom_53 ?_
          refine j_iadd E dX6_leastEffortFrom_54 ?_
          refine j_min E (tw W_299) (tw W_7) (tw W_8) (tw W_9) (Nat.le_of_ble_eq_true rfl) (Nat.le_of_ble_eq_true rfl) (Nat.zero_le _) (Nat.zero_le _) dX6_leastEffortFrom_55 ?_
          refine j_topi (fun x17 ex17 => ?_)
          have h := h x17 ex17
          refine j_istore_n E 2 [(2, .int x17), (0, .ref v0), (1, .int v1), (3, .int v3)] dX6_leastEffortFrom_58 rfl (by decide) rfl ?_
          obtain ⟨x18, ex18⟩ : ∃ y : Int32, y = v3 + 1 := ⟨_, rfl⟩
          have h := h x18 ex18
          refine j_iinc E x18 [(3, .int x18), (2, .int x17), (0, .ref v0), (1, .int v1)] dX6_leastEffortFrom_59 3 rfl (by rw [ex18]; rfl) (by decide) rfl ?_
          refine j_goto E 13 dX6_leastEffortFrom_62 (by decide) ?_
          refine j_sub [2, 3, 1, 0] rfl ?_
          exact hK13 v0 v1 x17 x18 I9 L10 kv0 h
set_option maxRecDepth 100000 in
def f_X6_leastEffortFrom_b10  (Z : jZ) (Q : Int32 → jI → jL → Prop) (v0 : Nat) (v1 : Int32) (s0 : Int32) (I : jI) (L : jL) : Prop := (∃ m13 : Nat, f_X6_leastEffortFrom_L13  Z Q m13 v0 v1 s0 (1 : Int32) I L)
set_option maxHeartbeats 4000000 in
set_option maxRecDepth 100000 in
theorem m_X6_leastEffortFrom_b10 {G : jG} {Z : jZ} {Q : Int32 → jI → jL → Prop} (E : jE G cX6_leastEffortFrom RX6 w_X6_leastEffortFrom 4 (some .int) { frames := 1, cells := 0, slots := 0, locals := 23 } (rtI Z Q)) (hZ : SH Z)  (v0 : Nat) (v1 : Int32) (s0 : Int32) (I : jI) (L : jL) (kv0 : jk Z v0 6) (h : f_X6_leastEffortFrom_b10  Z Q v0 v1 s0 I L) : jJ G 4 10 [(0, .ref v0), (1, .int v1)] [.int s0] Z I L 0 0 := by
  refine j_istore_n E 2 [(2, .int s0), (0, .ref v0), (1, .int v1)] dX6_leastEffortFrom_10 rfl (by decide) rfl ?_
  refine j_iconst E (v := 1) dX6_leastEffortFrom_11 (by decide) ?_
  refine j_istore_n E 3 [(3, .int (1 : Int32)), (2, .int s0), (0, .ref v0), (1, .int v1)] dX6_leastEffortFrom_12 rfl (by decide) rfl ?_
  obtain ⟨n19, h⟩ := h
  refine j_sub [2, 3, 1, 0] rfl ?_
  exact m_X6_leastEffortFrom_L13 E hZ  n19 v0 v1 s0 (1 : Int32) I L kv0 h
set_option maxRecDepth 100000 in
def f_X6_leastEffortFrom (v0 : Nat) (v1 : Int32) (Z : jZ) (I : jI) (L : jL) (Q : Int32 → jI → jL → Prop) : Prop := ((¬ v1 = 0 → f_X6_leastEffortFrom_b10  Z Q v0 v1 (1048576 : Int32) I L) ∧ (v1 = 0 → f_X6_leastEffortFrom_b10  Z Q v0 v1 (0 : Int32) I L))
set_option maxHeartbeats 4000000 in
set_option maxRecDepth 100000 in
theorem c_X6_leastEffortFrom (l : Launch) (D : va_G) (cy : jC) (v0 : Nat) (v1 : Int32) (Z : jZ) (I : jI) (L : jL) (Q : Int32 → jI → jL → Prop) (hZ : SH Z) (kv0 : jk Z v0 6) (h : f_X6_leastEffortFrom v0 v1 Z I L Q) : jCt l yX6_leastEffortFrom w_X6_leastEffortFrom { frames := 1, cells := 0, slots := 0, locals := 23 } D cy [.ref v0, .int v1] Z I L (rtI Z Q) := by
  refine jCt_of (cc := cX6_leastEffortFrom) (maxL := 4) (ret := (some .int)) (by decide +kernel) rfl (Nat.le_of_ble_eq_true rfl) ?_
  intro G eD eY eL E
  subst eD; subst eY; subst eL
  have E : jE G cX6_leastEffortFrom RX6 w_X6_leastEffortFrom 4 (some .int) { frames := 1, cells := 0, slots := 0, locals := 23 } (rtI Z Q) := E
  show jJ G 4 0 [(0, .ref v0), (1, .int v1)] [] Z I L 0 0
  refine j_iload_n E dX6_leastEffortFrom_0 1 rfl ?_
  refine j_if_ne E 8 dX6_leastEffortFrom_1 (by decide) (fun c20 => ?_) (fun c20 => ?_)
  · have h := h.1 c20
    refine j_ldc E (tw W_300) dX6_leastEffortFrom_8 ?_
    refine j_sub [0, 1] rfl ?_
    exact m_X6_leastEffortFrom_b10 E hZ  v0 v1 (1048576 : Int32) I L kv0 h
  · have h := h.2 c20
    refine j_iconst E (v := 0) dX6_leastEffortFrom_4 (by decide) ?_
    refine j_goto E 10 dX6_leastEffortFrom_5 (by decide) ?_
    refine j_sub [0, 1] rfl ?_
    exact m_X6_leastEffortFrom_b10 E hZ  v0 v1 (0 : Int32) I L kv0 h
set_option maxRecDepth 100000 in
def f_X6_raiseOne (B : Nat × Nat) (v0 : Nat) (v1 : Int32) (Z : jZ) (I : jI) (L : jL) (Q : jZ → jI → jL → Prop) : Prop := ((v1 ≤ 0 → Q Z I L) ∧ (¬ (v1 ≤ 0) → (((I v0 15) < v1 → Q Z I L) ∧ (¬ ((I v0 15) < v1) → (∀ b3 : Nat, jr Z v0 9 = some b3 → (f_X6_feed v0 b3 v1 (-1 : Int64) (-1 : Int32) Z I L (fun I6 L7 => (∀ b10 : Nat, jr Z v0 9 = some b10 → (∀ b11 : Nat, jr Z v0 7 = some b11 → (vp_in v1 25 ∧ (f_X7_keepCheapest B b10 v1 ((I6 v0 1) - (I6 b11 v1.toNatClampNeg)) (I6 v0 2) Z I6 L7 (fun Z14 I15 L16 => Q Z14 I15 L16))))))))))))
set_option maxHeartbeats 4000000 in
set_option maxRecDepth 100000 in
theorem c_X6_raiseOne (l : Launch) (D : va_G) (cy : jC) (B : Nat × Nat) (v0 : Nat) (v1 : Int32) (Z : jZ) (I : jI) (L : jL) (Q : jZ → jI → jL → Prop) (hZ : SH Z) (hb : jin B Z) (kv0 : jk Z v0 6) (h : f_X6_raiseOne B v0 v1 Z I L Q) : jCtU l yX6_raiseOne w_X6_raiseOne B 4 120 D cy [.ref v0, .int v1] Z I L (urtV B Z Q) := by
  refine jCtU_of (cc := cX6_raiseOne) (maxL := 2) (ret := none) (by decide +kernel) rfl (Nat.le_of_ble_eq_true rfl) ?_
  intro G eD eY eL E EU
  subst eD; subst eY; subst eL
  have E : jE G cX6_raiseOne RX6 w_X6_raiseOne 2 none (jrm B 4 120 Z) jRF := E
  have hx : jext Z Z := jext_rfl
  have hc : jle Z Z := jle_rfl
  show jJ G 2 0 [(0, .ref v0), (1, .int v1)] [] Z I L (jcz Z - jcz Z) (jsz Z - jsz Z)
  refine j_iload_n E dX6_raiseOne_0 1 rfl ?_
  refine j_if_le E 48 dX6_raiseOne_1 (by decide) (fun c1 => ?_) (fun c1 => ?_)
  · have h := h.1 c1
    exact ju_return E EU hc hb ⟨hx, hZ, hb, rfl, h⟩ dX6_raiseOne_48
  · have h := h.2 c1
    refine j_iload_n E dX6_raiseOne_4 1 rfl ?_
    refine j_aload_n E dX6_raiseOne_5 0 rfl ?_
    refine j_geti E 6 15 rfl rfl (by decide) (by decide) (iw iT_6) rfl rfl (tw W_296) kv0 dX6_raiseOne_6 ?_
    refine j_icmp_gt E 48 dX6_raiseOne_9 (by decide) (fun c2 => ?_) (fun c2 => ?_)
    · have h := h.1 c2
      exact ju_return E EU hc hb ⟨hx, hZ, hb, rfl, h⟩ dX6_raiseOne_48
    · have h := h.2 c2
      refine j_aload_n E dX6_raiseOne_12 0 rfl ?_
      refine j_aload_n E dX6_raiseOne_13 0 rfl ?_
      obtain ⟨b3, eb3, kb3⟩ := sh_o hZ kv0 (j := 9) (k := 7) rfl
      have h := h b3 eb3
      refine j_getr E 6 9 rfl rfl (by decide) (by decide) (iw iT_6) rfl rfl (tw W_311) kv0 eb3 dX6_raiseOne_14 ?_
      refine j_iload_n E dX6_raiseOne_17 1 rfl ?_
      refine j_ldc2 E (tw W_312) dX6_raiseOne_18 ?_
      refine j_iconst E (v := -1) dX6_raiseOne_21 (by decide) ?_
      refine j_callV E [.ref b3, .int v1, .long (-1 : Int64), .int (-1 : Int32)] [] (c_X6_feed (gL G) (gD G) (gY G) v0 b3 v1 (-1 : Int64) (-1 : Int32) Z I L _ hZ kv0 kb3 h) (gwV W_313 W_79 W_80 W_33 W_77) rfl ⟨rfl, fy_X6_feed⟩ ⟨Nat.le_of_ble_eq_true rfl, Nat.le_of_ble_eq_true rfl⟩ (c := 6) rfl (by decide) kv0 rfl rfl (Nat.le_of_ble_eq_true rfl) (ju_kn hb) dX6_raiseOne_22 (fun v4 Z5 I6 L7 q8 => ?_)
      obtain ⟨rfl, rfl, h⟩ := q8
      show jJ G 2 25 [(0, .ref v0), (1, .int v1)] [] Z I6 L7 (jcz Z - jcz Z) (jsz Z - jsz Z)
      refine j_aload_n E dX6_raiseOne_25 0 rfl ?_
      obtain ⟨b10, eb10, kb10⟩ := sh_o hZ kv0 (j := 9) (k := 7) rfl
      have h := h b10 eb10
      refine j_getr E 6 9 rfl rfl (by decide) (by decide) (iw iT_6) rfl rfl (tw W_311) kv0 eb10 dX6_raiseOne_26 ?_
      refine j_iload_n E dX6_raiseOne_29 1 rfl ?_
      refine j_aload_n E dX6_raiseOne_30 0 rfl ?_
      refine j_geti E 6 1 rfl rfl (by decide) (by decide) (iw iT_6) rfl rfl (tw W_314) kv0 dX6_raiseOne_31 ?_
      refine j_aload_n E dX6_raiseOne_34 0 rfl ?_
      obtain ⟨b11, eb11, kb11, lb11⟩ := sh_f hZ kv0 (j := 7) (k := 14) (m := 25) rfl
      have h := h b11 eb11
      refine j_getr E 6 7 rfl rfl (by decide) (by decide) (iw iT_6) rfl rfl (tw W_298) kv0 eb11 dX6_raiseOne_35 ?_
      refine j_iload_n E dX6_raiseOne_38 1 rfl ?_
      obtain ⟨o12, h⟩ := h
      refine j_iald E kb11 (by rw [lb11]; exact o12) dX6_raiseOne_39 ?_
      refine j_isub E dX6_raiseOne_40 ?_
      refine j_aload_n E dX6_raiseOne_41 0 rfl ?_
      refine j_geti E 6 2 rfl rfl (by decide) (by decide) (iw iT_6) rfl rfl (tw W_315) kv0 dX6_raiseOne_42 ?_
      refine ju_callV E [.int v1, .int ((I6 v0 1) - (I6 b11 v1.toNatClampNeg)), .int (I6 v0 2)] [] (c_X7_keepCheapest (gL G) (gD G) (gY G) B b10 v1 ((I6 v0 1) - (I6 b11 v1.toNatClampNeg)) (I6 v0 2) Z I6 L7 _ hZ hb kb10 h) (gwV W_316 W_83 W_84 W_24 W_81) rfl ⟨rfl, fy_X7_keepCheapest⟩ ⟨Nat.le_of_ble_eq_true rfl, Nat.le_of_ble_eq_true rfl⟩ (c := 7) rfl (by decide) kb10 rfl rfl (Nat.le_of_ble_eq_true rfl) (ju_f hc hb) dX6_raiseOne_45 (fun v13 Z14 I15 L16 q17 j18 => ?_)
      refine ju_next hc j18 ?_
      have hc := jle_trans hc j18
      obtain ⟨yZ14, hZ14, hbZ14, rfl, h⟩ := q17
      have hZ := hZ14
      have hx : jext Z Z14 := jext_trans hx yZ14
      have hb := hbZ14
      have k19 := (yZ14 _ _ kv0).1
      show jJ G 2 48 [(0, .ref v0), (1, .int v1)] [] Z14 I15 L16 (jcz Z14 - jcz Z) (jsz Z14 - jsz Z)
      exact ju_return E EU hc hb ⟨hx, hZ, hb, rfl, h⟩ dX6_raiseOne_48
set_option maxRecDepth 100000 in
def f_X6_raiseTo_L2 (B : Nat × Nat)  (Q : jZ → jI → jL → Prop) : Nat → Nat → Int32 → Int32 → jZ → jI → jL → Prop
  | 0 => fun _ _ _ _ _ _ => False
  | n + 1 => fun v0 v1 v2 Z I L => ((v1 < v2 → Q Z I L) ∧ (¬ (v1 < v2) → (((I v0 15) < v2 → Q Z I L) ∧ (¬ ((I v0 15) < v2) → (f_X6_raiseOne B v0 v2 Z I L (fun Z4 I5 L6 => (∀ x10 : Int32, x10 = v2 + 1 → (f_X6_raiseTo_L2 B Q n) v0 v1 x10 Z4 I5 L6)))))))
set_option maxHeartbeats 4000000 in
set_option maxRecDepth 100000 in
theorem m_X6_raiseTo_L2 {G : jG} {Z0 : jZ} {B : Nat × Nat} {Q : jZ → jI → jL → Prop} (E : jE G cX6_raiseTo RX6 w_X6_raiseTo 3 none (jrm B 5 141 Z0) jRF) (EU : jEU G B Z0 (urtV B Z0 Q))  : ∀ (n : Nat) (v0 : Nat) (v1 : Int32) (v2 : Int32) (Z : jZ) (I : jI) (L : jL), SH Z → jext Z0 Z → jle Z0 Z → jin B Z → jk Z v0 6 → f_X6_raiseTo_L2 B  Q n v0 v1 v2 Z I L → jJ G 3 2 [(0, .ref v0), (1, .int v1), (2, .int v2)] [] Z I L (jcz Z - jcz Z0) (jsz Z - jsz Z0) := by
  intro n
  induction n with
  | zero => intro v0 v1 v2 Z I L _ _ _ _ _ h; exact h.elim
  | succ n ih =>
    intro v0 v1 v2 Z I L hZ hx hc hb kv0 h
    have h : ((v1 < v2 → Q Z I L) ∧ (¬ (v1 < v2) → (((I v0 15) < v2 → Q Z I L) ∧ (¬ ((I v0 15) < v2) → (f_X6_raiseOne B v0 v2 Z I L (fun Z4 I5 L6 => (∀ x10 : Int32, x10 = v2 + 1 → (f_X6_raiseTo_L2 B Q n) v0 v1 x10 Z4 I5 L6))))))) := h
    obtain ⟨K2, eK2⟩ : ∃ K : Nat → Int32 → Int32 → jZ → jI → jL → Prop, K = f_X6_raiseTo_L2 B  Q n := ⟨_, rfl⟩
    have hK2 := ih
    clear eK2 K2
    generalize f_X6_raiseTo_L2 B  Q n = K2 at hK2 h
    refine j_iload_n E dX6_raiseTo_2 2 rfl ?_
    refine j_iload_n E dX6_raiseTo_3 1 rfl ?_
    refine j_icmp_gt E 26 dX6_raiseTo_4 (by decide) (fun c1 => ?_) (fun c1 => ?_)
    · have h := h.1 c1
      exact ju_return E EU hc hb ⟨hx, hZ, hb, rfl, h⟩ dX6_raiseTo_26
    · have h := h.2 c1
      refine j_iload_n E dX6_raiseTo_7 2 rfl ?_
      refine j_aload_n E dX6_raiseTo_8 0 rfl ?_
      refine j_geti E 6 15 rfl rfl (by decide) (by decide) (iw iT_6) rfl rfl (tw W_296) kv0 dX6_raiseTo_9 ?_
      refine j_icmp_gt E 26 dX6_raiseTo_12 (by decide) (fun c2 => ?_) (fun c2 => ?_)
      · have h := h.1 c2
        exact ju_return E EU hc hb ⟨hx, hZ, hb, rfl, h⟩ dX6_raiseTo_26
      · have h := h.2 c2
        refine j_aload_n E dX6_raiseTo_15 0 rfl ?_
        refine j_iload_n E dX6_raiseTo_16 2 rfl ?_
        refine ju_callV E [.int v2] [] (c_X6_raiseOne (gL G) (gD G) (gY G) B v0 v2 Z I L _ hZ hb kv0 h) (gwV W_318 W_319 W_320 W_33 W_317) rfl ⟨rfl, fy_X6_raiseOne⟩ ⟨Nat.le_of_ble_eq_true rfl, Nat.le_of_ble_eq_true rfl⟩ (c := 6) rfl (by decide) kv0 rfl rfl (Nat.le_of_ble_eq_true rfl) (ju_f hc hb) dX6_raiseTo_17 (fun v3 Z4 I5 L6 q7 j8 => ?_)
        refine ju_next hc j8 ?_
        have hc := jle_trans hc j8
        obtain ⟨yZ4, hZ4, hbZ4, rfl, h⟩ := q7
        have hZ := hZ4
        have hx : jext Z0 Z4 := jext_trans hx yZ4
        have hb := hbZ4
        have k9 := (yZ4 _ _ kv0).1
        show jJ G 3 20 [(0, .ref v0), (1, .int v1), (2, .int v2)] [] Z4 I5 L6 (jcz Z4 - jcz Z0) (jsz Z4 - jsz Z0)
        obtain ⟨x10, ex10⟩ : ∃ y : Int32, y = v2 + 1 := ⟨_, rfl⟩
        have h := h x10 ex10
        refine j_iinc E x10 [(2, .int x10), (0, .ref v0), (1, .int v1)] dX6_raiseTo_20 2 rfl (by rw [ex10]; rfl) (by decide) rfl ?_
        refine j_goto E 2 dX6_raiseTo_23 (by decide) ?_
        refine j_sub [1, 2, 0] rfl ?_
        exact hK2 v0 v1 x10 Z4 I5 L6 hZ hx hc hb k9 h
set_option maxRecDepth 100000 in
def f_X6_raiseTo (B : Nat × Nat) (v0 : Nat) (v1 : Int32) (Z : jZ) (I : jI) (L : jL) (Q : jZ → jI → jL → Prop) : Prop := (∃ m2 : Nat, f_X6_raiseTo_L2 B  Q m2 v0 v1 (1 : Int32) Z I L)
set_option maxHeartbeats 4000000 in
set_option maxRecDepth 100000 in
theorem c_X6_raiseTo (l : Launch) (D : va_G) (cy : jC) (B : Nat × Nat) (v0 : Nat) (v1 : Int32) (Z : jZ) (I : jI) (L : jL) (Q : jZ → jI → jL → Prop) (hZ : SH Z) (hb : jin B Z) (kv0 : jk Z v0 6) (h : f_X6_raiseTo B v0 v1 Z I L Q) : jCtU l yX6_raiseTo w_X6_raiseTo B 5 141 D cy [.ref v0, .int v1] Z I L (urtV B Z Q) := by
  refine jCtU_of (cc := cX6_raiseTo) (maxL := 3) (ret := none) (by decide +kernel) rfl (Nat.le_of_ble_eq_true rfl) ?_
  intro G eD eY eL E EU
  subst eD; subst eY; subst eL
  have E : jE G cX6_raiseTo RX6 w_X6_raiseTo 3 none (jrm B 5 141 Z) jRF := E
  have hx : jext Z Z := jext_rfl
  have hc : jle Z Z := jle_rfl
  show jJ G 3 0 [(0, .ref v0), (1, .int v1)] [] Z I L (jcz Z - jcz Z) (jsz Z - jsz Z)
  refine j_iconst E (v := 1) dX6_raiseTo_0 (by decide) ?_
  refine j_istore_n E 2 [(2, .int (1 : Int32)), (0, .ref v0), (1, .int v1)] dX6_raiseTo_1 rfl (by decide) rfl ?_
  obtain ⟨n11, h⟩ := h
  refine j_sub [1, 2, 0] rfl ?_
  exact m_X6_raiseTo_L2 E EU  n11 v0 v1 (1 : Int32) Z I L hZ hx hc hb kv0 h
set_option maxRecDepth 100000 in
def f_X6_cheapest (B : Nat × Nat) (v0 : Nat) (Z : jZ) (I : jI) (L : jL) (Q : Int64 → jZ → jI → jL → Prop) : Prop := (∀ b1 : Nat, jr Z v0 7 = some b1 → (((I b1 (0 : Int32).toNatClampNeg) ≤ (I v0 1) → (∀ b3 : Nat, jr Z v0 9 = some b3 → (f_X7_begin B b3 (0 : Int32) (16777215 : Int64) Z I L (fun Z5 I6 L7 => (f_X6_raiseTo B v0 (I6 v0 15) Z5 I6 L7 (fun Z12 I13 L14 => (∀ b18 : Nat, jr Z12 v0 9 = some b18 → (f_X7_sizeAt b18 (I13 v0 15) Z12 I13 L14 (fun r25 I21 L22 => ((r25 ≤ 0 → Q (9223372036854775807 : Int64) Z12 I21 L22) ∧ (¬ (r25 ≤ 0) → (∀ b27 : Nat, jr Z12 v0 9 = some b27 → (f_X7_keyAt b27 (I21 v0 15) (0 : Int32) Z12 I21 L22 (fun r34 I30 L31 => Q r34 Z12 I30 L31)))))))))))))) ∧ (¬ ((I b1 (0 : Int32).toNatClampNeg) ≤ (I v0 1)) → Q (9223372036854775807 : Int64) Z I L)))
set_option maxHeartbeats 4000000 in
set_option maxRecDepth 100000 in
theorem c_X6_cheapest (l : Launch) (D : va_G) (cy : jC) (B : Nat × Nat) (v0 : Nat) (Z : jZ) (I : jI) (L : jL) (Q : Int64 → jZ → jI → jL → Prop) (hZ : SH Z) (hb : jin B Z) (kv0 : jk Z v0 6) (h : f_X6_cheapest B v0 Z I L Q) : jCtU l yX6_cheapest w_X6_cheapest B 6 163 D cy [.ref v0] Z I L (urtL B Z Q) := by
  refine jCtU_of (cc := cX6_cheapest) (maxL := 1) (ret := (some .long)) (by decide +kernel) rfl (Nat.le_of_ble_eq_true rfl) ?_
  intro G eD eY eL E EU
  subst eD; subst eY; subst eL
  have E : jE G cX6_cheapest RX6 w_X6_cheapest 1 (some .long) (jrm B 6 163 Z) jRF := E
  have hx : jext Z Z := jext_rfl
  have hc : jle Z Z := jle_rfl
  show jJ G 1 0 [(0, .ref v0)] [] Z I L (jcz Z - jcz Z) (jsz Z - jsz Z)
  refine j_aload_n E dX6_cheapest_0 0 rfl ?_
  obtain ⟨b1, eb1, kb1, lb1⟩ := sh_f hZ kv0 (j := 7) (k := 14) (m := 25) rfl
  have h := h b1 eb1
  refine j_getr E 6 7 rfl rfl (by decide) (by decide) (iw iT_6) rfl rfl (tw W_298) kv0 eb1 dX6_cheapest_1 ?_
  refine j_iconst E (v := 0) dX6_cheapest_4 (by decide) ?_
  refine j_iald E kb1 (by rw [lb1]; exact vp_in_lit (by decide)) dX6_cheapest_5 ?_
  refine j_aload_n E dX6_cheapest_6 0 rfl ?_
  refine j_geti E 6 1 rfl rfl (by decide) (by decide) (iw iT_6) rfl rfl (tw W_314) kv0 dX6_cheapest_7 ?_
  refine j_icmp_le E 17 dX6_cheapest_10 (by decide) (fun c2 => ?_) (fun c2 => ?_)
  · have h := h.1 c2
    refine j_aload_n E dX6_cheapest_17 0 rfl ?_
    obtain ⟨b3, eb3, kb3⟩ := sh_o hZ kv0 (j := 9) (k := 7) rfl
    have h := h b3 eb3
    refine j_getr E 6 9 rfl rfl (by decide) (by decide) (iw iT_6) rfl rfl (tw W_311) kv0 eb3 dX6_cheapest_18 ?_
    refine j_iconst E (v := 0) dX6_cheapest_21 (by decide) ?_
    refine j_ldc2 E (tw W_321) dX6_cheapest_22 ?_
    refine ju_callV E [.int (0 : Int32), .long (16777215 : Int64)] [] (c_X7_begin (gL G) (gD G) (gY G) B b3 (0 : Int32) (16777215 : Int64) Z I L _ hZ hb kb3 h) (gwV W_322 W_88 W_89 W_24 W_86) rfl ⟨rfl, fy_X7_begin⟩ ⟨Nat.le_of_ble_eq_true rfl, Nat.le_of_ble_eq_true rfl⟩ (c := 7) rfl (by decide) kb3 rfl rfl (Nat.le_of_ble_eq_true rfl) (ju_f hc hb) dX6_cheapest_25 (fun v4 Z5 I6 L7 q8 j9 => ?_)
    refine ju_next hc j9 ?_
    have hc := jle_trans hc j9
    obtain ⟨yZ5, hZ5, hbZ5, rfl, h⟩ := q8
    have hZ := hZ5
    have hx : jext Z Z5 := jext_trans hx yZ5
    have hb := hbZ5
    have k10 := (yZ5 _ _ kv0).1
    show jJ G 1 28 [(0, .ref v0)] [] Z5 I6 L7 (jcz Z5 - jcz Z) (jsz Z5 - jsz Z)
    refine j_aload_n E dX6_cheapest_28 0 rfl ?_
    refine j_aload_n E dX6_cheapest_29 0 rfl ?_
    refine j_geti E 6 15 rfl rfl (by decide) (by decide) (iw iT_6) rfl rfl (tw W_296) k10 dX6_cheapest_30 ?_
    refine ju_callV E [.int (I6 v0 15)] [] (c_X6_raiseTo (gL G) (gD G) (gY G) B v0 (I6 v0 15) Z5 I6 L7 _ hZ hb k10 h) (gwV W_324 W_325 W_326 W_33 W_323) rfl ⟨rfl, fy_X6_raiseTo⟩ ⟨Nat.le_of_ble_eq_true rfl, Nat.le_of_ble_eq_true rfl⟩ (c := 6) rfl (by decide) k10 rfl rfl (Nat.le_of_ble_eq_true rfl) (ju_f hc hb) dX6_cheapest_33 (fun v11 Z12 I13 L14 q15 j16 => ?_)
    refine ju_next hc j16 ?_
    have hc := jle_trans hc j16
    obtain ⟨yZ12, hZ12, hbZ12, rfl, h⟩ := q15
    have hZ := hZ12
    have hx : jext Z Z12 := jext_trans hx yZ12
    have hb := hbZ12
    have k17 := (yZ12 _ _ k10).1
    show jJ G 1 36 [(0, .ref v0)] [] Z12 I13 L14 (jcz Z12 - jcz Z) (jsz Z12 - jsz Z)
    refine j_aload_n E dX6_cheapest_36 0 rfl ?_
    obtain ⟨b18, eb18, kb18⟩ := sh_o hZ k17 (j := 9) (k := 7) rfl
    have h := h b18 eb18
    refine j_getr E 6 9 rfl rfl (by decide) (by decide) (iw iT_6) rfl rfl (tw W_311) k17 eb18 dX6_cheapest_37 ?_
    refine j_aload_n E dX6_cheapest_40 0 rfl ?_
    refine j_geti E 6 15 rfl rfl (by decide) (by decide) (iw iT_6) rfl rfl (tw W_296) k17 dX6_cheapest_41 ?_
    refine j_callV E [.int (I13 v0 15)] [] (c_X7_sizeAt (gL G) (gD G) (gY G) b18 (I13 v0 15) Z12 I13 L14 _ hZ kb18 h) (gwV W_327 W_44 W_45 W_24 W_42) rfl ⟨rfl, fy_X7_sizeAt⟩ ⟨Nat.le_of_ble_eq_true rfl, Nat.le_of_ble_eq_true rfl⟩ (c := 7) rfl (by decide) kb18 rfl rfl (Nat.le_of_ble_eq_true rfl) (ju_kn hb) dX6_cheapest_44 (fun v19 Z20 I21 L22 q23 => ?_)
    obtain ⟨rfl, r25, rfl, h⟩ := q23
    show jJ G 1 47 [(0, .ref v0)] [.int r25] Z12 I21 L22 (jcz Z12 - jcz Z) (jsz Z12 - jsz Z)
    refine j_if_le E 65 dX6_cheapest_47 (by decide) (fun c26 => ?_) (fun c26 => ?_)
    · have h := h.1 c26
      refine j_ldc2 E (tw W_328) dX6_cheapest_65 ?_
      exact ju_lreturn E EU hc hb ⟨hx, hZ, hb, _, rfl, h⟩ dX6_cheapest_68
    · have h := h.2 c26
      refine j_aload_n E dX6_cheapest_50 0 rfl ?_
      obtain ⟨b27, eb27, kb27⟩ := sh_o hZ k17 (j := 9) (k := 7) rfl
      have h := h b27 eb27
      refine j_getr E 6 9 rfl rfl (by decide) (by decide) (iw iT_6) rfl rfl (tw W_311) k17 eb27 dX6_cheapest_51 ?_
      refine j_aload_n E dX6_cheapest_54 0 rfl ?_
      refine j_geti E 6 15 rfl rfl (by decide) (by decide) (iw iT_6) rfl rfl (tw W_296) k17 dX6_cheapest_55 ?_
      refine j_iconst E (v := 0) dX6_cheapest_58 (by decide) ?_
      refine j_callV E [.int (I21 v0 15), .int (0 : Int32)] [] (c_X7_keyAt (gL G) (gD G) (gY G) b27 (I21 v0 15) (0 : Int32) Z12 I21 L22 _ hZ kb27 h) (gwV W_329 W_74 W_75 W_24 W_72) rfl ⟨rfl, fy_X7_keyAt⟩ ⟨Nat.le_of_ble_eq_true rfl, Nat.le_of_ble_eq_true rfl⟩ (c := 7) rfl (by decide) kb27 rfl rfl (Nat.le_of_ble_eq_true rfl) (ju_kn hb) dX6_cheapest_59 (fun v28 Z29 I30 L31 q32 => ?_)
      obtain ⟨rfl, r34, rfl, h⟩ := q32
      show jJ G 1 62 [(0, .ref v0)] [.long r34] Z12 I30 L31 (jcz Z12 - jcz Z) (jsz Z12 - jsz Z)
      refine j_goto E 68 dX6_cheapest_62 (by decide) ?_
      exact ju_lreturn E EU hc hb ⟨hx, hZ, hb, _, rfl, h⟩ dX6_cheapest_68
  · have h := h.2 c2
    refine j_ldc2 E (tw W_328) dX6_cheapest_13 ?_
    exact ju_lreturn E EU hc hb ⟨hx, hZ, hb, _, rfl, h⟩ dX6_cheapest_16
set_option maxRecDepth 100000 in
def f_X6_lower_b72 (B : Nat × Nat)  (Q : jZ → jI → jL → Prop) (v0 : Nat) (v1 : Int32) (Z : jZ) (I : jI) (L : jL) : Prop := (∀ b1 : Nat, jr Z v0 10 = some b1 → (∀ b2 : Nat, jr Z v0 8 = some b2 → (vp_in v1 25 ∧ (f_X7_keepCheapest B b1 v1 ((I v0 1) - (I b2 v1.toNatClampNeg)) (I v0 2) Z I L (fun Z5 I6 L7 => Q Z5 I6 L7)))))
set_option maxHeartbeats 4000000 in
set_option maxRecDepth 100000 in
theorem m_X6_lower_b72 {G : jG} {B : Nat × Nat} {Z0 : jZ} {Q : jZ → jI → jL → Prop} (E : jE G cX6_lower RX6 w_X6_lower 3 none (jrm B 4 120 Z0) jRF) (EU : jEU G B Z0 (urtV B Z0 Q))  (v0 : Nat) (v1 : Int32) (Z : jZ) (I : jI) (L : jL) (hZ : SH Z) (hx : jext Z0 Z) (hc : jle Z0 Z) (hb : jin B Z) (kv0 : jk Z v0 6) (h : f_X6_lower_b72 B  Q v0 v1 Z I L) : jJ G 3 72 [(0, .ref v0), (1, .int v1)] [] Z I L (jcz Z - jcz Z0) (jsz Z - jsz Z0) := by
  refine j_aload_n E dX6_lower_72 0 rfl ?_
  obtain ⟨b1, eb1, kb1⟩ := sh_o hZ kv0 (j := 10) (k := 7) rfl
  have h := h b1 eb1
  refine j_getr E 6 10 rfl rfl (by decide) (by decide) (iw iT_6) rfl rfl (tw W_330) kv0 eb1 dX6_lower_73 ?_
  refine j_iload_n E dX6_lower_76 1 rfl ?_
  refine j_aload_n E dX6_lower_77 0 rfl ?_
  refine j_geti E 6 1 rfl rfl (by decide) (by decide) (iw iT_6) rfl rfl (tw W_314) kv0 dX6_lower_78 ?_
  refine j_aload_n E dX6_lower_81 0 rfl ?_
  obtain ⟨b2, eb2, kb2, lb2⟩ := sh_f hZ kv0 (j := 8) (k := 14) (m := 25) rfl
  have h := h b2 eb2
  refine j_getr E 6 8 rfl rfl (by decide) (by decide) (iw iT_6) rfl rfl (tw W_310) kv0 eb2 dX6_lower_82 ?_
  refine j_iload_n E dX6_lower_85 1 rfl ?_
  obtain ⟨o3, h⟩ := h
  refine j_iald E kb2 (by rw [lb2]; exact o3) dX6_lower_86 ?_
  refine j_isub E dX6_lower_87 ?_
  refine j_aload_n E dX6_lower_88 0 rfl ?_
  refine j_geti E 6 2 rfl rfl (by decide) (by decide) (iw iT_6) rfl rfl (tw W_315) kv0 dX6_lower_89 ?_
  refine ju_callV E [.int v1, .int ((I v0 1) - (I b2 v1.toNatClampNeg)), .int (I v0 2)] [] (c_X7_keepCheapest (gL G) (gD G) (gY G) B b1 v1 ((I v0 1) - (I b2 v1.toNatClampNeg)) (I v0 2) Z I L _ hZ hb kb1 h) (gwV W_316 W_83 W_84 W_24 W_81) rfl ⟨rfl, fy_X7_keepCheapest⟩ ⟨Nat.le_of_ble_eq_true rfl, Nat.le_of_ble_eq_true rfl⟩ (c := 7) rfl (by decide) kb1 rfl rfl (Nat.le_of_ble_eq_true rfl) (ju_f hc hb) dX6_lower_92 (fun v4 Z5 I6 L7 q8 j9 => ?_)
  refine ju_next hc j9 ?_
  have hc := jle_trans hc j9
  obtain ⟨yZ5, hZ5, hbZ5, rfl, h⟩ := q8
  have hZ := hZ5
  have hx : jext Z0 Z5 := jext_trans hx yZ5
  have hb := hbZ5
  have k10 := (yZ5 _ _ kv0).1
  show jJ G 3 95 [(0, .ref v0), (1, .int v1)] [] Z5 I6 L7 (jcz Z5 - jcz Z0) (jsz Z5 - jsz Z0)
  exact ju_return E EU hc hb ⟨hx, hZ, hb, rfl, h⟩ dX6_lower_95
set_option maxRecDepth 100000 in
def f_X6_lower_b66 (B : Nat × Nat) (K10 : Nat → Int32 → Int32 → jZ → jI → jL → Prop) (Q : jZ → jI → jL → Prop) (v0 : Nat) (v1 : Int32) (v2 : Int32) (Z : jZ) (I : jI) (L : jL) : Prop := (∀ x11 : Int32, x11 = v2 + 1 → K10 v0 v1 x11 Z I L)
set_option maxHeartbeats 4000000 in
set_option maxRecDepth 100000 in
theorem m_X6_lower_b66 {G : jG} {B : Nat × Nat} {Z0 : jZ} {Q : jZ → jI → jL → Prop} (E : jE G cX6_lower RX6 w_X6_lower 3 none (jrm B 4 120 Z0) jRF) (EU : jEU G B Z0 (urtV B Z0 Q)) (K10 : Nat → Int32 → Int32 → jZ → jI → jL → Prop) (hK10 : ∀ (v0 : Nat) (v1 : Int32) (v2 : Int32) (Z : jZ) (I : jI) (L : jL), SH Z → jext Z0 Z → jle Z0 Z → jin B Z → jk Z v0 6 → K10 v0 v1 v2 Z I L → jJ G 3 10 [(0, .ref v0), (1, .int v1), (2, .int v2)] [] Z I L (jcz Z - jcz Z0) (jsz Z - jsz Z0)) (v0 : Nat) (v1 : Int32) (v2 : Int32) (Z : jZ) (I : jI) (L : jL) (hZ : SH Z) (hx : jext Z0 Z) (hc : jle Z0 Z) (hb : jin B Z) (kv0 : jk Z v0 6) (h : f_X6_lower_b66 B K10 Q v0 v1 v2 Z I L) : jJ G 3 66 [(0, .ref v0), (1, .int v1), (2, .int v2)] [] Z I L (jcz Z - jcz Z0) (jsz Z - jsz Z0) := by
  obtain ⟨x11, ex11⟩ : ∃ y : Int32, y = v2 + 1 := ⟨_, rfl⟩
  have h := h x11 ex11
  refine j_iinc E x11 [(2, .int x11), (0, .ref v0), (1, .int v1)] dX6_lower_66 2 rfl (by rw [ex11]; rfl) (by decide) rfl ?_
  refine j_goto E 10 dX6_lower_69 (by decide) ?_
  refine j_sub [1, 2, 0] rfl ?_
  exact hK10 v0 v1 x11 Z I L hZ hx hc hb kv0 h
set_option maxRecDepth 100000 in
def f_X6_lower_L10 (B : Nat × Nat)  (Q : jZ → jI → jL → Prop) : Nat → Nat → Int32 → Int32 → jZ → jI → jL → Prop
  | 0 => fun _ _ _ _ _ _ => False
  | n + 1 => fun v0 v1 v2 Z I L => (((I v0 3) < v2 → f_X6_lower_b72 B  Q v0 v1 Z I L) ∧ (¬ ((I v0 3) < v2) → (((I v0 15) < (v1 + v2) → f_X6_lower_b72 B  Q v0 v1 Z I L) ∧ (¬ ((I v0 15) < (v1 + v2)) → (∀ b14 : Nat, jr Z v0 6 = some b14 → (vp_in v1 25 ∧ (((I b14 v1.toNatClampNeg) = 0 → f_X6_lower_b72 B  Q v0 v1 Z I L) ∧ (¬ ((I b14 v1.toNatClampNeg) = 0) → (∀ b17 : Nat, jr Z v0 6 = some b17 → (vp_in (v1 + v2) 25 ∧ (((I b17 (v1 + v2).toNatClampNeg) = 0 → f_X6_lower_b66 B (f_X6_lower_L10 B Q n) Q v0 v1 v2 Z I L) ∧ (¬ ((I b17 (v1 + v2).toNatClampNeg) = 0) → (∀ b20 : Nat, jr Z v0 10 = some b20 → (f_X6_keyOf v0 (v1 + v2) v2 Z I L (fun r27 I23 L24 => (f_X7_merge b20 (v1 + v2) r27 Z I23 L24 (fun I30 L31 => f_X6_lower_b66 B (f_X6_lower_L10 B Q n) Q v0 v1 v2 Z I30 L31)))))))))))))))))
set_option maxHeartbeats 4000000 in
set_option maxRecDepth 100000 in
theorem m_X6_lower_L10 {G : jG} {Z0 : jZ} {B : Nat × Nat} {Q : jZ → jI → jL → Prop} (E : jE G cX6_lower RX6 w_X6_lower 3 none (jrm B 4 120 Z0) jRF) (EU : jEU G B Z0 (urtV B Z0 Q))  : ∀ (n : Nat) (v0 : Nat) (v1 : Int32) (v2 : Int32) (Z : jZ) (I : jI) (L : jL), SH Z → jext Z0 Z → jle Z0 Z → jin B Z → jk Z v0 6 → f_X6_lower_L10 B  Q n v0 v1 v2 Z I L → jJ G 3 10 [(0, .ref v0), (1, .int v1), (2, .int v2)] [] Z I L (jcz Z - jcz Z0) (jsz Z - jsz Z0) := by
  intro n
  induction n with
  | zero => intro v0 v1 v2 Z I L _ _ _ _ _ h; exact h.elim
  | succ n ih =>
    intro v0 v1 v2 Z I L hZ hx hc hb kv0 h
    have h : (((I v0 3) < v2 → f_X6_lower_b72 B  Q v0 v1 Z I L) ∧ (¬ ((I v0 3) < v2) → (((I v0 15) < (v1 + v2) → f_X6_lower_b72 B  Q v0 v1 Z I L) ∧ (¬ ((I v0 15) < (v1 + v2)) → (∀ b14 : Nat, jr Z v0 6 = some b14 → (vp_in v1 25 ∧ (((I b14 v1.toNatClampNeg) = 0 → f_X6_lower_b72 B  Q v0 v1 Z I L) ∧ (¬ ((I b14 v1.toNatClampNeg) = 0) → (∀ b17 : Nat, jr Z v0 6 = some b17 → (vp_in (v1 + v2) 25 ∧ (((I b17 (v1 + v2).toNatClampNeg) = 0 → f_X6_lower_b66 B (f_X6_lower_L10 B Q n) Q v0 v1 v2 Z I L) ∧ (¬ ((I b17 (v1 + v2).toNatClampNeg) = 0) → (∀ b20 : Nat, jr Z v0 10 = some b20 → (f_X6_keyOf v0 (v1 + v2) v2 Z I L (fun r27 I23 L24 => (f_X7_merge b20 (v1 + v2) r27 Z I23 L24 (fun I30 L31 => f_X6_lower_b66 B (f_X6_lower_L10 B Q n) Q v0 v1 v2 Z I30 L31))))))))))))))))) := h
    obtain ⟨K10, eK10⟩ : ∃ K : Nat → Int32 → Int32 → jZ → jI → jL → Prop, K = f_X6_lower_L10 B  Q n := ⟨_, rfl⟩
    have hK10 := ih
    clear eK10 K10
    generalize f_X6_lower_L10 B  Q n = K10 at hK10 h
    refine j_iload_n E dX6_lower_10 2 rfl ?_
    refine j_aload_n E dX6_lower_11 0 rfl ?_
    refine j_geti E 6 3 rfl rfl (by decide) (by decide) (iw iT_6) rfl rfl (tw W_58) kv0 dX6_lower_12 ?_
    refine j_icmp_gt E 72 dX6_lower_15 (by decide) (fun c12 => ?_) (fun c12 => ?_)
    · have h := h.1 c12
      refine j_sub [0, 1] rfl ?_
      exact m_X6_lower_b72 E EU  v0 v1 Z I L hZ hx hc hb kv0 h
    · have h := h.2 c12
      refine j_iload_n E dX6_lower_18 1 rfl ?_
      refine j_iload_n E dX6_lower_19 2 rfl ?_
      refine j_iadd E dX6_lower_20 ?_
      refine j_aload_n E dX6_lower_21 0 rfl ?_
      refine j_geti E 6 15 rfl rfl (by decide) (by decide) (iw iT_6) rfl rfl (tw W_296) kv0 dX6_lower_22 ?_
      refine j_icmp_gt E 72 dX6_lower_25 (by decide) (fun c13 => ?_) (fun c13 => ?_)
      · have h := h.1 c13
        refine j_sub [0, 1] rfl ?_
        exact m_X6_lower_b72 E EU  v0 v1 Z I L hZ hx hc hb kv0 h
      · have h := h.2 c13
        refine j_aload_n E dX6_lower_28 0 rfl ?_
        obtain ⟨b14, eb14, kb14, lb14⟩ := sh_f hZ kv0 (j := 6) (k := 16) (m := 25) rfl
        have h := h b14 eb14
        refine j_getr E 6 6 rfl rfl (by decide) (by decide) (iw iT_6) rfl rfl (tw W_59) kv0 eb14 dX6_lower_29 ?_
        refine j_iload_n E dX6_lower_32 1 rfl ?_
        obtain ⟨o15, h⟩ := h
        refine j_zald E kb14 (by rw [lb14]; exact o15) dX6_lower_33 ?_
        refine j_if_eq E 72 dX6_lower_34 (by decide) (fun c16 => ?_) (fun c16 => ?_)
        · have h := h.1 c16
          refine j_sub [0, 1] rfl ?_
          exact m_X6_lower_b72 E EU  v0 v1 Z I L hZ hx hc hb kv0 h
        · have h := h.2 c16
          refine j_aload_n E dX6_lower_37 0 rfl ?_
          obtain ⟨b17, eb17, kb17, lb17⟩ := sh_f hZ kv0 (j := 6) (k := 16) (m := 25) rfl
          have h := h b17 eb17
          refine j_getr E 6 6 rfl rfl (by decide) (by decide) (iw iT_6) rfl rfl (tw W_59) kv0 eb17 dX6_lower_38 ?_
          refine j_iload_n E dX6_lower_41 1 rfl ?_
          refine j_iload_n E dX6_lower_42 2 rfl ?_
          refine j_iadd E dX6_lower_43 ?_
          obtain ⟨o18, h⟩ := h
          refine j_zald E kb17 (by rw [lb17]; exact o18) dX6_lower_44 ?_
          refine j_if_eq E 66 dX6_lower_45 (by decide) (fun c19 => ?_) (fun c19 => ?_)
          · have h := h.1 c19
            refine j_sub [0, 1, 2] rfl ?_
            exact m_X6_lower_b66 E EU K10 hK10 v0 v1 v2 Z I L hZ hx hc hb kv0 h
          · have h := h.2 c19
            refine j_aload_n E dX6_lower_48 0 rfl ?_
            obtain ⟨b20, eb20, kb20⟩ := sh_o hZ kv0 (j := 10) (k := 7) rfl
            have h := h b20 eb20
            refine j_getr E 6 10 rfl rfl (by decide) (by decide) (iw iT_6) rfl rfl (tw W_330) kv0 eb20 dX6_lower_49 ?_
            refine j_iload_n E dX6_lower_52 1 rfl ?_
            refine j_iload_n E dX6_lower_53 2 rfl ?_
            refine j_iadd E dX6_lower_54 ?_
            refine j_aload_n E dX6_lower_55 0 rfl ?_
            refine j_iload_n E dX6_lower_56 1 rfl ?_
            refine j_iload_n E dX6_lower_57 2 rfl ?_
            refine j_iadd E dX6_lower_58 ?_
            refine j_iload_n E dX6_lower_59 2 rfl ?_
            refine j_callV E [.int (v1 + v2), .int v2] [.int (v1 + v2), .ref b20] (c_X6_keyOf (gL G) (gD G) (gY G) v0 (v1 + v2) v2 Z I L _ hZ kv0 h) (gwV W_51 W_52 W_53 W_33 W_50) rfl ⟨rfl, fy_X6_keyOf⟩ ⟨Nat.le_of_ble_eq_true rfl, Nat.le_of_ble_eq_true rfl⟩ (c := 6) rfl (by decide) kv0 rfl rfl (Nat.le_of_ble_eq_true rfl) (ju_kn hb) dX6_lower_60 (fun v21 Z22 I23 L24 q25 => ?_)
            obtain ⟨rfl, r27, rfl, h⟩ := q25
            show jJ G 3 63 [(0, .ref v0), (1, .int v1), (2, .int v2)] [.long r27, .int (v1 + v2), .ref b20] Z I23 L24 (jcz Z - jcz Z0) (jsz Z - jsz Z0)
            refine j_callV E [.int (v1 + v2), .long r27] [] (c_X7_merge (gL G) (gD G) (gY G) b20 (v1 + v2) r27 Z I23 L24 _ hZ kb20 h) (gwV W_55 W_56 W_57 W_24 W_54) rfl ⟨rfl, fy_X7_merge⟩ ⟨Nat.le_of_ble_eq_true rfl, Nat.le_of_ble_eq_true rfl⟩ (c := 7) rfl (by decide) kb20 rfl rfl (Nat.le_of_ble_eq_true rfl) (ju_kn hb) dX6_lower_63 (fun v28 Z29 I30 L31 q32 => ?_)
            obtain ⟨rfl, rfl, h⟩ := q32
            show jJ G 3 66 [(0, .ref v0), (1, .int v1), (2, .int v2)] [] Z I30 L31 (jcz Z - jcz Z0) (jsz Z - jsz Z0)
            refine j_sub [0, 1, 2] rfl ?_
            exact m_X6_lower_b66 E EU K10 hK10 v0 v1 v2 Z I30 L31 hZ hx hc hb kv0 h
set_option maxRecDepth 100000 in
def f_X6_lower (B : Nat × Nat) (v0 : Nat) (v1 : Int32) (Z : jZ) (I : jI) (L : jL) (Q : jZ → jI → jL → Prop) : Prop := (∀ b34 : Nat, jr Z v0 10 = some b34 → (f_X7_start b34 v1 Z I L (fun I37 L38 => (∃ m10 : Nat, f_X6_lower_L10 B  Q m10 v0 v1 (1 : Int32) Z I37 L38))))
set_option maxHeartbeats 4000000 in
set_option maxRecDepth 100000 in
theorem c_X6_lower (l : Launch) (D : va_G) (cy : jC) (B : Nat × Nat) (v0 : Nat) (v1 : Int32) (Z : jZ) (I : jI) (L : jL) (Q : jZ → jI → jL → Prop) (hZ : SH Z) (hb : jin B Z) (kv0 : jk Z v0 6) (h : f_X6_lower B v0 v1 Z I L Q) : jCtU l yX6_lower w_X6_lower B 4 120 D cy [.ref v0, .int v1] Z I L (urtV B Z Q) := by
  refine jCtU_of (cc := cX6_lower) (maxL := 3) (ret := none) (by decide +kernel) rfl (Nat.le_of_ble_eq_true rfl) ?_
  intro G eD eY eL E EU
  subst eD; subst eY; subst eL
  have E : jE G cX6_lower RX6 w_X6_lower 3 none (jrm B 4 120 Z) jRF := E
  have hx : jext Z Z := jext_rfl
  have hc : jle Z Z := jle_rfl
  show jJ G 3 0 [(0, .ref v0), (1, .int v1)] [] Z I L (jcz Z - jcz Z) (jsz Z - jsz Z)
  refine j_aload_n E dX6_lower_0 0 rfl ?_
  obtain ⟨b34, eb34, kb34⟩ := sh_o hZ kv0 (j := 10) (k := 7) rfl
  have h := h b34 eb34
  refine j_getr E 6 10 rfl rfl (by decide) (by decide) (iw iT_6) rfl rfl (tw W_330) kv0 eb34 dX6_lower_1 ?_
  refine j_iload_n E dX6_lower_4 1 rfl ?_
  refine j_callV E [.int v1] [] (c_X7_start (gL G) (gD G) (gY G) b34 v1 Z I L _ hZ kb34 h) (gwV W_60 W_26 W_27 W_24 W_23) rfl ⟨rfl, fy_X7_start⟩ ⟨Nat.le_of_ble_eq_true rfl, Nat.le_of_ble_eq_true rfl⟩ (c := 7) rfl (by decide) kb34 rfl rfl (Nat.le_of_ble_eq_true rfl) (ju_kn hb) dX6_lower_5 (fun v35 Z36 I37 L38 q39 => ?_)
  obtain ⟨rfl, rfl, h⟩ := q39
  show jJ G 3 8 [(0, .ref v0), (1, .int v1)] [] Z I37 L38 (jcz Z - jcz Z) (jsz Z - jsz Z)
  refine j_iconst E (v := 1) dX6_lower_8 (by decide) ?_
  refine j_istore_n E 2 [(2, .int (1 : Int32)), (0, .ref v0), (1, .int v1)] dX6_lower_9 rfl (by decide) rfl ?_
  obtain ⟨n41, h⟩ := h
  refine j_sub [1, 2, 0] rfl ?_
  exact m_X6_lower_L10 E EU  n41 v0 v1 (1 : Int32) Z I37 L38 hZ hx hc hb kv0 h
set_option maxRecDepth 100000 in
def f_X6_survey_L48 (B : Nat × Nat)  (Q : jZ → jI → jL → Prop) : Nat → Nat → Int32 → jZ → jI → jL → Prop
  | 0 => fun _ _ _ _ _ => False
  | n + 1 => fun v0 v1 Z I L => ((v1 ≤ 0 → (∀ b2 : Nat, jr Z v0 9 = some b2 → (f_X7_begin B b2 (0 : Int32) (16777215 : Int64) Z I L (fun Z4 I5 L6 => Q Z4 I5 L6)))) ∧ (¬ (v1 ≤ 0) → (f_X6_lower B v0 v1 Z I L (fun Z11 I12 L13 => (∀ x17 : Int32, x17 = v1 + (-1) → (f_X6_survey_L48 B Q n) v0 x17 Z11 I12 L13)))))
set_option maxHeartbeats 4000000 in
set_option maxRecDepth 100000 in
theorem m_X6_survey_L48 {G : jG} {Z0 : jZ} {B : Nat × Nat} {Q : jZ → jI → jL → Prop} (E : jE G cX6_survey RX6 w_X6_survey 2 none (jrm B 5 142 Z0) jRF) (EU : jEU G B Z0 (urtV B Z0 Q))  : ∀ (n : Nat) (v0 : Nat) (v1 : Int32) (Z : jZ) (I : jI) (L : jL), SH Z → jext Z0 Z → jle Z0 Z → jin B Z → jk Z v0 6 → f_X6_survey_L48 B  Q n v0 v1 Z I L → jJ G 2 48 [(0, .ref v0), (1, .int v1)] [] Z I L (jcz Z - jcz Z0) (jsz Z - jsz Z0) := by
  intro n
  induction n with
  | zero => intro v0 v1 Z I L _ _ _ _ _ h; exact h.elim
  | succ n ih =>
    intro v0 v1 Z I L hZ hx hc hb kv0 h
    have h : ((v1 ≤ 0 → (∀ b2 : Nat, jr Z v0 9 = some b2 → (f_X7_begin B b2 (0 : Int32) (16777215 : Int64) Z I L (fun Z4 I5 L6 => Q Z4 I5 L6)))) ∧ (¬ (v1 ≤ 0) → (f_X6_lower B v0 v1 Z I L (fun Z11 I12 L13 => (∀ x17 : Int32, x17 = v1 + (-1) → (f_X6_survey_L48 B Q n) v0 x17 Z11 I12 L13))))) := h
    obtain ⟨K48, eK48⟩ : ∃ K : Nat → Int32 → jZ → jI → jL → Prop, K = f_X6_survey_L48 B  Q n := ⟨_, rfl⟩
    have hK48 := ih
    clear eK48 K48
    generalize f_X6_survey_L48 B  Q n = K48 at hK48 h
    refine j_iload_n E dX6_survey_48 1 rfl ?_
    refine j_if_le E 63 dX6_survey_49 (by decide) (fun c1 => ?_) (fun c1 => ?_)
    · have h := h.1 c1
      refine j_aload_n E dX6_survey_63 0 rfl ?_
      obtain ⟨b2, eb2, kb2⟩ := sh_o hZ kv0 (j := 9) (k := 7) rfl
      have h := h b2 eb2
      refine j_getr E 6 9 rfl rfl (by decide) (by decide) (iw iT_6) rfl rfl (tw W_311) kv0 eb2 dX6_survey_64 ?_
      refine j_iconst E (v := 0) dX6_survey_67 (by decide) ?_
      refine j_ldc2 E (tw W_321) dX6_survey_68 ?_
      refine ju_callV E [.int (0 : Int32), .long (16777215 : Int64)] [] (c_X7_begin (gL G) (gD G) (gY G) B b2 (0 : Int32) (16777215 : Int64) Z I L _ hZ hb kb2 h) (gwV W_322 W_88 W_89 W_24 W_86) rfl ⟨rfl, fy_X7_begin⟩ ⟨Nat.le_of_ble_eq_true rfl, Nat.le_of_ble_eq_true rfl⟩ (c := 7) rfl (by decide) kb2 rfl rfl (Nat.le_of_ble_eq_true rfl) (ju_f hc hb) dX6_survey_71 (fun v3 Z4 I5 L6 q7 j8 => ?_)
      refine ju_next hc j8 ?_
      have hc := jle_trans hc j8
      obtain ⟨yZ4, hZ4, hbZ4, rfl, h⟩ := q7
      have hZ := hZ4
      have hx : jext Z0 Z4 := jext_trans hx yZ4
      have hb := hbZ4
      have k9 := (yZ4 _ _ kv0).1
      show jJ G 2 74 [(0, .ref v0), (1, .int v1)] [] Z4 I5 L6 (jcz Z4 - jcz Z0) (jsz Z4 - jsz Z0)
      exact ju_return E EU hc hb ⟨hx, hZ, hb, rfl, h⟩ dX6_survey_74
    · have h := h.2 c1
      refine j_aload_n E dX6_survey_52 0 rfl ?_
      refine j_iload_n E dX6_survey_53 1 rfl ?_
      refine ju_callV E [.int v1] [] (c_X6_lower (gL G) (gD G) (gY G) B v0 v1 Z I L _ hZ hb kv0 h) (gwV W_332 W_333 W_334 W_33 W_331) rfl ⟨rfl, fy_X6_lower⟩ ⟨Nat.le_of_ble_eq_true rfl, Nat.le_of_ble_eq_true rfl⟩ (c := 6) rfl (by decide) kv0 rfl rfl (Nat.le_of_ble_eq_true rfl) (ju_f hc hb) dX6_survey_54 (fun v10 Z11 I12 L13 q14 j15 => ?_)
      refine ju_next hc j15 ?_
      have hc := jle_trans hc j15
      obtain ⟨yZ11, hZ11, hbZ11, rfl, h⟩ := q14
      have hZ := hZ11
      have hx : jext Z0 Z11 := jext_trans hx yZ11
      have hb := hbZ11
      have k16 := (yZ11 _ _ kv0).1
      show jJ G 2 57 [(0, .ref v0), (1, .int v1)] [] Z11 I12 L13 (jcz Z11 - jcz Z0) (jsz Z11 - jsz Z0)
      obtain ⟨x17, ex17⟩ : ∃ y : Int32, y = v1 + (-1) := ⟨_, rfl⟩
      have h := h x17 ex17
      refine j_iinc E x17 [(1, .int x17), (0, .ref v0)] dX6_survey_57 1 rfl (by rw [ex17]; rfl) (by decide) rfl ?_
      refine j_goto E 48 dX6_survey_60 (by decide) ?_
      refine j_sub [1, 0] rfl ?_
      exact hK48 v0 x17 Z11 I12 L13 hZ hx hc hb k16 h
set_option maxRecDepth 100000 in
def f_X6_survey_L2 (B : Nat × Nat)  (Q : jZ → jI → jL → Prop) : Nat → Nat → Int32 → jZ → jI → jL → Prop
  | 0 => fun _ _ _ _ _ => False
  | n + 1 => fun v0 v1 Z I L => (((I v0 15) < v1 → (∀ b19 : Nat, jr Z v0 10 = some b19 → (f_X7_begin B b19 (I v0 15) (16777215 : Int64) Z I L (fun Z21 I22 L23 => (∀ x27 : Int32, x27 = ((I22 v0 15) - (1 : Int32)) → (∃ m48 : Nat, f_X6_survey_L48 B  Q m48 v0 x27 Z21 I22 L23)))))) ∧ (¬ ((I v0 15) < v1) → (∀ b29 : Nat, jr Z v0 8 = some b29 → (f_X6_leastEffortFrom v0 v1 Z I L (fun r36 I32 L33 => (vp_in v1 25 ∧ (∀ I38 : jI, I38 = jpI I32 b29 v1.toNatClampNeg r36 → (∀ x39 : Int32, x39 = v1 + 1 → (f_X6_survey_L2 B Q n) v0 x39 Z I38 L33))))))))
set_option maxHeartbeats 4000000 in
set_option maxRecDepth 100000 in
theorem m_X6_survey_L2 {G : jG} {Z0 : jZ} {B : Nat × Nat} {Q : jZ → jI → jL → Prop} (E : jE G cX6_survey RX6 w_X6_survey 2 none (jrm B 5 142 Z0) jRF) (EU : jEU G B Z0 (urtV B Z0 Q))  : ∀ (n : Nat) (v0 : Nat) (v1 : Int32) (Z : jZ) (I : jI) (L : jL), SH Z → jext Z0 Z → jle Z0 Z → jin B Z → jk Z v0 6 → f_X6_survey_L2 B  Q n v0 v1 Z I L → jJ G 2 2 [(0, .ref v0), (1, .int v1)] [] Z I L (jcz Z - jcz Z0) (jsz Z - jsz Z0) := by
  intro n
  induction n with
  | zero => intro v0 v1 Z I L _ _ _ _ _ h; exact h.elim
  | succ n ih =>
    intro v0 v1 Z I L hZ hx hc hb kv0 h
    have h : (((I v0 15) < v1 → (∀ b19 : Nat, jr Z v0 10 = some b19 → (f_X7_begin B b19 (I v0 15) (16777215 : Int64) Z I L (fun Z21 I22 L23 => (∀ x27 : Int32, x27 = ((I22 v0 15) - (1 : Int32)) → (∃ m48 : Nat, f_X6_survey_L48 B  Q m48 v0 x27 Z21 I22 L23)))))) ∧ (¬ ((I v0 15) < v1) → (∀ b29 : Nat, jr Z v0 8 = some b29 → (f_X6_leastEffortFrom v0 v1 Z I L (fun r36 I32 L33 => (vp_in v1 25 ∧ (∀ I38 : jI, I38 = jpI I32 b29 v1.toNatClampNeg r36 → (∀ x39 : Int32, x39 = v1 + 1 → (f_X6_survey_L2 B Q n) v0 x39 Z I38 L33)))))))) := h
    obtain ⟨K2, eK2⟩ : ∃ K : Nat → Int32 → jZ → jI → jL → Prop, K = f_X6_survey_L2 B  Q n := ⟨_, rfl⟩
    have hK2 := ih
    clear eK2 K2
    generalize f_X6_survey_L2 B  Q n = K2 at hK2 h
    refine j_iload_n E dX6_survey_2 1 rfl ?_
    refine j_aload_n E dX6_survey_3 0 rfl ?_
    refine j_geti E 6 15 rfl rfl (by decide) (by decide) (iw iT_6) rfl rfl (tw W_296) kv0 dX6_survey_4 ?_
    refine j_icmp_gt E 27 dX6_survey_7 (by decide) (fun c18 => ?_) (fun c18 => ?_)
    · have h := h.1 c18
      refine j_aload_n E dX6_survey_27 0 rfl ?_
      obtain ⟨b19, eb19, kb19⟩ := sh_o hZ kv0 (j := 10) (k := 7) rfl
      have h := h b19 eb19
      refine j_getr E 6 10 rfl rfl (by decide) (by decide) (iw iT_6) rfl rfl (tw W_330) kv0 eb19 dX6_survey_28 ?_
      refine j_aload_n E dX6_survey_31 0 rfl ?_
      refine j_geti E 6 15 rfl rfl (by decide) (by decide) (iw iT_6) rfl rfl (tw W_296) kv0 dX6_survey_32 ?_
      refine j_ldc2 E (tw W_321) dX6_survey_35 ?_
      refine ju_callV E [.int (I v0 15), .long (16777215 : Int64)] [] (c_X7_begin (gL G) (gD G) (gY G) B b19 (I v0 15) (16777215 : Int64) Z I L _ hZ hb kb19 h) (gwV W_322 W_88 W_89 W_24 W_86) rfl ⟨rfl, fy_X7_begin⟩ ⟨Nat.le_of_ble_eq_true rfl, Nat.le_of_ble_eq_true rfl⟩ (c := 7) rfl (by decide) kb19 rfl rfl (Nat.le_of_ble_eq_true rfl) (ju_f hc hb) dX6_survey_38 (fun v20 Z21 I22 L23 q24 j25 => ?_)
      refine ju_next hc j25 ?_
      have hc := jle_trans hc j25
      obtain ⟨yZ21, hZ21, hbZ21, rfl, h⟩ := q24
      have hZ := hZ21
      have hx : jext Z0 Z21 := jext_trans hx yZ21
      have hb := hbZ21
      have k26 := (yZ21 _ _ kv0).1
      show jJ G 2 41 [(0, .ref v0), (1, .int v1)] [] Z21 I22 L23 (jcz Z21 - jcz Z0) (jsz Z21 - jsz Z0)
      refine j_aload_n E dX6_survey_41 0 rfl ?_
      refine j_geti E 6 15 rfl rfl (by decide) (by decide) (iw iT_6) rfl rfl (tw W_296) k26 dX6_survey_42 ?_
      refine j_iconst E (v := 1) dX6_survey_45 (by decide) ?_
      refine j_isub E dX6_survey_46 ?_
      refine j_topi (fun x27 ex27 => ?_)
      have h := h x27 ex27
      refine j_istore_n E 1 [(1, .int x27), (0, .ref v0)] dX6_survey_47 rfl (by decide) rfl ?_
      obtain ⟨n28, h⟩ := h
      refine j_sub [1, 0] rfl ?_
      exact m_X6_survey_L48 E EU  n28 v0 x27 Z21 I22 L23 hZ hx hc hb k26 h
    · have h := h.2 c18
      refine j_aload_n E dX6_survey_10 0 rfl ?_
      obtain ⟨b29, eb29, kb29, lb29⟩ := sh_f hZ kv0 (j := 8) (k := 14) (m := 25) rfl
      have h := h b29 eb29
      refine j_getr E 6 8 rfl rfl (by decide) (by decide) (iw iT_6) rfl rfl (tw W_310) kv0 eb29 dX6_survey_11 ?_
      refine j_iload_n E dX6_survey_14 1 rfl ?_
      refine j_aload_n E dX6_survey_15 0 rfl ?_
      refine j_iload_n E dX6_survey_16 1 rfl ?_
      refine j_callV E [.int v1] [.int v1, .ref b29] (c_X6_leastEffortFrom (gL G) (gD G) (gY G) v0 v1 Z I L _ hZ kv0 h) (gwV W_336 W_337 W_338 W_33 W_335) rfl ⟨rfl, fy_X6_leastEffortFrom⟩ ⟨Nat.le_of_ble_eq_true rfl, Nat.le_of_ble_eq_true rfl⟩ (c := 6) rfl (by decide) kv0 rfl rfl (Nat.le_of_ble_eq_true rfl) (ju_kn hb) dX6_survey_17 (fun v30 Z31 I32 L33 q34 => ?_)
      obtain ⟨rfl, r36, rfl, h⟩ := q34
      show jJ G 2 20 [(0, .ref v0), (1, .int v1)] [.int r36, .int v1, .ref b29] Z I32 L33 (jcz Z - jcz Z0) (jsz Z - jsz Z0)
      obtain ⟨o37, h⟩ := h
      refine j_iast E kb29 (by rw [lb29]; exact o37) dX6_survey_20 ?_
      refine j_nmI (fun I38 eI38 => ?_)
      have h := h I38 eI38
      obtain ⟨x39, ex39⟩ : ∃ y : Int32, y = v1 + 1 := ⟨_, rfl⟩
      have h := h x39 ex39
      refine j_iinc E x39 [(1, .int x39), (0, .ref v0)] dX6_survey_21 1 rfl (by rw [ex39]; rfl) (by decide) rfl ?_
      refine j_goto E 2 dX6_survey_24 (by decide) ?_
      refine j_sub [1, 0] rfl ?_
      exact hK2 v0 x39 Z I38 L33 hZ hx hc hb kv0 h
set_option maxRecDepth 100000 in
def f_X6_survey (B : Nat × Nat) (v0 : Nat) (Z : jZ) (I : jI) (L : jL) (Q : jZ → jI → jL → Prop) : Prop := (∃ m2 : Nat, f_X6_survey_L2 B  Q m2 v0 (0 : Int32) Z I L)
set_option maxHeartbeats 4000000 in
set_option maxRecDepth 100000 in
theorem c_X6_survey (l : Launch) (D : va_G) (cy : jC) (B : Nat × Nat) (v0 : Nat) (Z : jZ) (I : jI) (L : jL) (Q : jZ → jI → jL → Prop) (hZ : SH Z) (hb : jin B Z) (kv0 : jk Z v0 6) (h : f_X6_survey B v0 Z I L Q) : jCtU l yX6_survey w_X6_survey B 5 142 D cy [.ref v0] Z I L (urtV B Z Q) := by
  refine jCtU_of (cc := cX6_survey) (maxL := 2) (ret := none) (by decide +kernel) rfl (Nat.le_of_ble_eq_true rfl) ?_
  intro G eD eY eL E EU
  subst eD; subst eY; subst eL
  have E : jE G cX6_survey RX6 w_X6_survey 2 none (jrm B 5 142 Z) jRF := E
  have hx : jext Z Z := jext_rfl
  have hc : jle Z Z := jle_rfl
  show jJ G 2 0 [(0, .ref v0)] [] Z I L (jcz Z - jcz Z) (jsz Z - jsz Z)
  refine j_iconst E (v := 0) dX6_survey_0 (by decide) ?_
  refine j_istore_n E 1 [(1, .int (0 : Int32)), (0, .ref v0)] dX6_survey_1 rfl (by decide) rfl ?_
  obtain ⟨n40, h⟩ := h
  refine j_sub [1, 0] rfl ?_
  exact m_X6_survey_L2 E EU  n40 v0 (0 : Int32) Z I L hZ hx hc hb kv0 h
set_option maxRecDepth 100000 in
def f_X7_leastJoined_b148  (Z : jZ) (Q : Int64 → jI → jL → Prop) (v7 : Int64) (I : jI) (L : jL) : Prop := Q v7 I L
set_option maxHeartbeats 4000000 in
set_option maxRecDepth 100000 in
theorem m_X7_leastJoined_b148 {G : jG} {Z : jZ} {Q : Int64 → jI → jL → Prop} (E : jE G cX7_leastJoined RX7 w_X7_leastJoined 15 (some .long) { frames := 2, cells := 0, slots := 0, locals := 43 } (rtL Z Q)) (hZ : SH Z)  (v7 : Int64) (I : jI) (L : jL)  (h : f_X7_leastJoined_b148  Z Q v7 I L) : jJ G 15 148 [(7, .long v7)] [] Z I L 0 0 := by
  refine j_lload E dX7_leastJoined_148 0 rfl ?_
  exact j_lreturn E ⟨rfl, _, rfl, h⟩ (Nat.zero_le _) (Nat.zero_le _) dX7_leastJoined_150
set_option maxRecDepth 100000 in
def f_X7_leastJoined_b142 (K31 : Nat → Int32 → Nat → Int32 → Int32 → Int32 → Int32 → Int64 → Int64 → Int32 → jI → jL → Prop) (Z : jZ) (Q : Int64 → jI → jL → Prop) (v0 : Nat) (v1 : Int32) (v2 : Nat) (v3 : Int32) (v4 : Int32) (v5 : Int32) (v6 : Int32) (v7 : Int64) (v9 : Int64) (v11 : Int32) (I : jI) (L : jL) : Prop := (∀ x1 : Int32, x1 = v11 + 1 → K31 v0 v1 v2 v3 v4 v5 v6 v7 v9 x1 I L)
set_option maxHeartbeats 4000000 in
set_option maxRecDepth 100000 in
theorem m_X7_leastJoined_b142 {G : jG} {Z : jZ} {Q : Int64 → jI → jL → Prop} (E : jE G cX7_leastJoined RX7 w_X7_leastJoined 15 (some .long) { frames := 2, cells := 0, slots := 0, locals := 43 } (rtL Z Q)) (hZ : SH Z) (K31 : Nat → Int32 → Nat → Int32 → Int32 → Int32 → Int32 → Int64 → Int64 → Int32 → jI → jL → Prop) (hK31 : ∀ (v0 : Nat) (v1 : Int32) (v2 : Nat) (v3 : Int32) (v4 : Int32) (v5 : Int32) (v6 : Int32) (v7 : Int64) (v9 : Int64) (v11 : Int32) (I : jI) (L : jL), jk Z v0 7 → jk Z v2 7 → K31 v0 v1 v2 v3 v4 v5 v6 v7 v9 v11 I L → jJ G 15 31 [(0, .ref v0), (1, .int v1), (2, .ref v2), (3, .int v3), (4, .int v4), (5, .int v5), (6, .int v6), (7, .long v7), (9, .long v9), (11, .int v11)] [] Z I L 0 0) (v0 : Nat) (v1 : Int32) (v2 : Nat) (v3 : Int32) (v4 : Int32) (v5 : Int32) (v6 : Int32) (v7 : Int64) (v9 : Int64) (v11 : Int32) (I : jI) (L : jL) (kv0 : jk Z v0 7) (kv2 : jk Z v2 7) (h : f_X7_leastJoined_b142 K31 Z Q v0 v1 v2 v3 v4 v5 v6 v7 v9 v11 I L) : jJ G 15 142 [(0, .ref v0), (1, .int v1), (2, .ref v2), (3, .int v3), (4, .int v4), (5, .int v5), (6, .int v6), (7, .long v7), (9, .long v9), (11, .int v11)] [] Z I L 0 0 := by
  obtain ⟨x1, ex1⟩ : ∃ y : Int32, y = v11 + 1 := ⟨_, rfl⟩
  have h := h x1 ex1
  refine j_iinc E x1 [(11, .int x1), (0, .ref v0), (1, .int v1), (2, .ref v2), (3, .int v3), (4, .int v4), (5, .int v5), (6, .int v6), (7, .long v7), (9, .long v9)] dX7_leastJoined_142 9 rfl (by rw [ex1]; rfl) (by decide) rfl ?_
  refine j_goto E 31 dX7_leastJoined_145 (by decide) ?_
  refine j_sub [1, 2, 3, 4, 5, 6, 7, 8, 9, 0] rfl ?_
  exact hK31 v0 v1 v2 v3 v4 v5 v6 v7 v9 x1 I L kv0 kv2 h
set_option maxRecDepth 100000 in
def f_X7_leastJoined_b114 (K31 : Nat → Int32 → Nat → Int32 → Int32 → Int32 → Int32 → Int64 → Int64 → Int32 → jI → jL → Prop) (Z : jZ) (Q : Int64 → jI → jL → Prop) (v0 : Nat) (v1 : Int32) (v2 : Nat) (v3 : Int32) (v4 : Int32) (v5 : Int32) (v6 : Int32) (v7 : Int64) (v9 : Int64) (v11 : Int32) (v12 : Int64) (I : jI) (L : jL) : Prop := ((v5 ≤ v6 → f_X7_leastJoined_b142 K31 Z Q v0 v1 v2 v3 v4 v5 v6 v7 v9 v11 I L) ∧ (¬ (v5 ≤ v6) → (f_X7_keyAt v2 v3 v6 Z I L (fun r9 I5 L6 => (∀ x10 : Int64, x10 = (if ((v12 + r9) - (16777215 : Int64)) < v7 then ((v12 + r9) - (16777215 : Int64)) else v7) → f_X7_leastJoined_b142 K31 Z Q v0 v1 v2 v3 v4 v5 v6 x10 v9 v11 I5 L6)))))
set_option maxHeartbeats 4000000 in
set_option maxRecDepth 100000 in
theorem m_X7_leastJoined_b114 {G : jG} {Z : jZ} {Q : Int64 → jI → jL → Prop} (E : jE G cX7_leastJoined RX7 w_X7_leastJoined 15 (some .long) { frames := 2, cells := 0, slots := 0, locals := 43 } (rtL Z Q)) (hZ : SH Z) (K31 : Nat → Int32 → Nat → Int32 → Int32 → Int32 → Int32 → Int64 → Int64 → Int32 → jI → jL → Prop) (hK31 : ∀ (v0 : Nat) (v1 : Int32) (v2 : Nat) (v3 : Int32) (v4 : Int32) (v5 : Int32) (v6 : Int32) (v7 : Int64) (v9 : Int64) (v11 : Int32) (I : jI) (L : jL), jk Z v0 7 → jk Z v2 7 → K31 v0 v1 v2 v3 v4 v5 v6 v7 v9 v11 I L → jJ G 15 31 [(0, .ref v0), (1, .int v1), (2, .ref v2), (3, .int v3), (4, .int v4), (5, .int v5), (6, .int v6), (7, .long v7), (9, .long v9), (11, .int v11)] [] Z I L 0 0) (v0 : Nat) (v1 : Int32) (v2 : Nat) (v3 : Int32) (v4 : Int32) (v5 : Int32) (v6 : Int32) (v7 : Int64) (v9 : Int64) (v11 : Int32) (v12 : Int64) (I : jI) (L : jL) (kv0 : jk Z v0 7) (kv2 : jk Z v2 7) (h : f_X7_leastJoined_b114 K31 Z Q v0 v1 v2 v3 v4 v5 v6 v7 v9 v11 v12 I L) : jJ G 15 114 [(0, .ref v0), (1, .int v1), (2, .ref v2), (3, .int v3), (4, .int v4), (5, .int v5), (6, .int v6), (7, .long v7), (9, .long v9), (11, .int v11), (12, .long v12)] [] Z I L 0 0 := by
  refine j_iload E dX7_leastJoined_114 6 rfl ?_
  refine j_iload E dX7_leastJoined_116 5 rfl ?_
  refine j_icmp_ge E 142 dX7_leastJoined_118 (by decide) (fun c2 => ?_) (fun c2 => ?_)
  · have h := h.1 c2
    refine j_sub [0, 1, 2, 3, 4, 5, 6, 7, 8, 9] rfl ?_
    exact m_X7_leastJoined_b142 E hZ K31 hK31 v0 v1 v2 v3 v4 v5 v6 v7 v9 v11 I L kv0 kv2 h
  · have h := h.2 c2
    refine j_lload E dX7_leastJoined_121 7 rfl ?_
    refine j_lload E dX7_leastJoined_123 10 rfl ?_
    refine j_aload_n E dX7_leastJoined_125 2 rfl ?_
    refine j_iload_n E dX7_leastJoined_126 3 rfl ?_
    refine j_iload E dX7_leastJoined_127 6 rfl ?_
    refine j_callV E [.int v3, .int v6] [.long v12, .long v7] (c_X7_keyAt (gL G) (gD G) (gY G) v2 v3 v6 Z I L _ hZ kv2 h) (gwV W_339 W_74 W_75 W_24 W_72) rfl ⟨rfl, fy_X7_keyAt⟩ ⟨by decide, by decide⟩ (c := 7) rfl (by decide) kv2 rfl rfl (Nat.le_of_ble_eq_true rfl) ⟨Nat.zero_le _, Nat.zero_le _⟩ dX7_leastJoined_129 (fun v3 Z4 I5 L6 q7 => ?_)
    obtain ⟨rfl, r9, rfl, h⟩ := q7
    show jJ G 15 132 [(0, .ref v0), (1, .int v1), (2, .ref v2), (3, .int v3), (4, .int v4), (5, .int v5), (6, .int v6), (7, .long v7), (9, .long v9), (11, .int v11), (12, .long v12)] [.long r9, .long v12, .long v7] Z I5 L6 0 0
    refine j_ladd E dX7_leastJoined_132 ?_
    refine j_ldc2 E (tw W_340) dX7_leastJoined_133 ?_
    refine j_lsub E dX7_leastJoined_136 ?_
    refine j_minl E (tw W_341) (tw W_342) (tw W_8) (tw W_343) (Nat.le_of_ble_eq_true rfl) (Nat.le_of_ble_eq_true rfl) (Nat.zero_le _) (Nat.zero_le _) dX7_leastJoined_137 ?_
    refine j_topl (fun x10 ex10 => ?_)
    have h := h x10 ex10
    refine j_lstore E 7 [(7, .long x10), (0, .ref v0), (1, .int v1), (2, .ref v2), (3, .int v3), (4, .int v4), (5, .int v5), (6, .int v6), (9, .long v9), (11, .int v11), (12, .long v12)] dX7_leastJoined_140 (by decide) rfl ?_
    refine j_sub [1, 2, 3, 4, 5, 6, 7, 0, 8, 9] rfl ?_
    exact m_X7_leastJoined_b142 E hZ K31 hK31 v0 v1 v2 v3 v4 v5 v6 x10 v9 v11 I5 L6 kv0 kv2 h
set_option maxRecDepth 100000 in
def f_X7_leastJoined_L86 (K31 : Nat → Int32 → Nat → Int32 → Int32 → Int32 → Int32 → Int64 → Int64 → Int32 → jI → jL → Prop) (Z : jZ) (Q : Int64 → jI → jL → Prop) : Nat → Nat → Int32 → Nat → Int32 → Int32 → Int32 → Int32 → Int64 → Int64 → Int32 → Int64 → Int32 → jI → jL → Prop
  | 0 => fun _ _ _ _ _ _ _ _ _ _ _ _ _ _ => False
  | n + 1 => fun v0 v1 v2 v3 v4 v5 v6 v7 v9 v11 v12 v14 I L => ((v6 ≤ 0 → f_X7_leastJoined_b114 K31 Z Q v0 v1 v2 v3 v4 v5 v6 v7 v9 v11 v12 I L) ∧ (¬ (v6 ≤ 0) → (f_X7_keyAt v2 v3 (v6 - (1 : Int32)) Z I L (fun r18 I14 L15 => (f_X11_effortIn r18 Z I14 L15 (fun r25 I21 L22 => ((v14 < r25 → f_X7_leastJoined_b114 K31 Z Q v0 v1 v2 v3 v4 v5 v6 v7 v9 v11 v12 I21 L22) ∧ (¬ (v14 < r25) → (∀ x27 : Int32, x27 = v6 + (-1) → (f_X7_leastJoined_L86 K31 Z Q n) v0 v1 v2 v3 v4 v5 x27 v7 v9 v11 v12 v14 I21 L22)))))))))
set_option maxHeartbeats 4000000 in
set_option maxRecDepth 100000 in
theorem m_X7_leastJoined_L86 {G : jG} {Z : jZ} {Q : Int64 → jI → jL → Prop} (E : jE G cX7_leastJoined RX7 w_X7_leastJoined 15 (some .long) { frames := 2, cells := 0, slots := 0, locals := 43 } (rtL Z Q)) (hZ : SH Z) (K31 : Nat → Int32 → Nat → Int32 → Int32 → Int32 → Int32 → Int64 → Int64 → Int32 → jI → jL → Prop) (hK31 : ∀ (v0 : Nat) (v1 : Int32) (v2 : Nat) (v3 : Int32) (v4 : Int32) (v5 : Int32) (v6 : Int32) (v7 : Int64) (v9 : Int64) (v11 : Int32) (I : jI) (L : jL), jk Z v0 7 → jk Z v2 7 → K31 v0 v1 v2 v3 v4 v5 v6 v7 v9 v11 I L → jJ G 15 31 [(0, .ref v0), (1, .int v1), (2, .ref v2), (3, .int v3), (4, .int v4), (5, .int v5), (6, .int v6), (7, .long v7), (9, .long v9), (11, .int v11)] [] Z I L 0 0) : ∀ (n : Nat) (v0 : Nat) (v1 : Int32) (v2 : Nat) (v3 : Int32) (v4 : Int32) (v5 : Int32) (v6 : Int32) (v7 : Int64) (v9 : Int64) (v11 : Int32) (v12 : Int64) (v14 : Int32) (I : jI) (L : jL), jk Z v0 7 → jk Z v2 7 → f_X7_leastJoined_L86 K31 Z Q n v0 v1 v2 v3 v4 v5 v6 v7 v9 v11 v12 v14 I L → jJ G 15 86 [(0, .ref v0), (1, .int v1), (2, .ref v2), (3, .int v3), (4, .int v4), (5, .int v5), (6, .int v6), (7, .long v7), (9, .long v9), (11, .int v11), (12, .long v12), (14, .int v14)] [] Z I L 0 0 := by
  intro n
  induction n with
  | zero => intro v0 v1 v2 v3 v4 v5 v6 v7 v9 v11 v12 v14 I L _ _ h; exact h.elim
  | succ n ih =>
    intro v0 v1 v2 v3 v4 v5 v6 v7 v9 v11 v12 v14 I L kv0 kv2 h
    have h : ((v6 ≤ 0 → f_X7_leastJoined_b114 K31 Z Q v0 v1 v2 v3 v4 v5 v6 v7 v9 v11 v12 I L) ∧ (¬ (v6 ≤ 0) → (f_X7_keyAt v2 v3 (v6 - (1 : Int32)) Z I L (fun r18 I14 L15 => (f_X11_effortIn r18 Z I14 L15 (fun r25 I21 L22 => ((v14 < r25 → f_X7_leastJoined_b114 K31 Z Q v0 v1 v2 v3 v4 v5 v6 v7 v9 v11 v12 I21 L22) ∧ (¬ (v14 < r25) → (∀ x27 : Int32, x27 = v6 + (-1) → (f_X7_leastJoined_L86 K31 Z Q n) v0 v1 v2 v3 v4 v5 x27 v7 v9 v11 v12 v14 I21 L22))))))))) := h
    obtain ⟨K86, eK86⟩ : ∃ K : Nat → Int32 → Nat → Int32 → Int32 → Int32 → Int32 → Int64 → Int64 → Int32 → Int64 → Int32 → jI → jL → Prop, K = f_X7_leastJoined_L86 K31 Z Q n := ⟨_, rfl⟩
    have hK86 := ih
    clear eK86 K86
    generalize f_X7_leastJoined_L86 K31 Z Q n = K86 at hK86 h
    refine j_iload E dX7_leastJoined_86 6 rfl ?_
    refine j_if_le E 114 dX7_leastJoined_88 (by decide) (fun c11 => ?_) (fun c11 => ?_)
    · have h := h.1 c11
      refine j_sub [0, 1, 2, 3, 4, 5, 6, 7, 8, 9, 10] rfl ?_
      exact m_X7_leastJoined_b114 E hZ K31 hK31 v0 v1 v2 v3 v4 v5 v6 v7 v9 v11 v12 I L kv0 kv2 h
    · have h := h.2 c11
      refine j_aload_n E dX7_leastJoined_91 2 rfl ?_
      refine j_iload_n E dX7_leastJoined_92 3 rfl ?_
      refine j_iload E dX7_leastJoined_93 6 rfl ?_
      refine j_iconst E (v := 1) dX7_leastJoined_95 (by decide) ?_
      refine j_isub E dX7_leastJoined_96 ?_
      refine j_callV E [.int v3, .int (v6 - (1 : Int32))] [] (c_X7_keyAt (gL G) (gD G) (gY G) v2 v3 (v6 - (1 : Int32)) Z I L _ hZ kv2 h) (gwV W_339 W_74 W_75 W_24 W_72) rfl ⟨rfl, fy_X7_keyAt⟩ ⟨by decide, by decide⟩ (c := 7) rfl (by decide) kv2 rfl rfl (Nat.le_of_ble_eq_true rfl) ⟨Nat.zero_le _, Nat.zero_le _⟩ dX7_leastJoined_97 (fun v12 Z13 I14 L15 q16 => ?_)
      obtain ⟨rfl, r18, rfl, h⟩ := q16
      show jJ G 15 100 [(0, .ref v0), (1, .int v1), (2, .ref v2), (3, .int v3), (4, .int v4), (5, .int v5), (6, .int v6), (7, .long v7), (9, .long v9), (11, .int v11), (12, .long v12), (14, .int v14)] [.long r18] Z I14 L15 0 0
      refine j_callSN E [.long r18] [] (c_X11_effortIn (gL G) (gD G) (gY G) r18 Z I14 L15 _ hZ  h) (gwN W_68) rfl (nm_X11_effortIn_X7_75) (tw W_40) (tw W_69) fy_X11_effortIn ⟨by decide, by decide⟩ rfl rfl (Nat.le_of_ble_eq_true rfl) ⟨Nat.zero_le _, Nat.zero_le _⟩ dX7_leastJoined_100 (fun v19 Z20 I21 L22 q23 => ?_)
      obtain ⟨rfl, r25, rfl, h⟩ := q23
      show jJ G 15 103 [(0, .ref v0), (1, .int v1), (2, .ref v2), (3, .int v3), (4, .int v4), (5, .int v5), (6, .int v6), (7, .long v7), (9, .long v9), (11, .int v11), (12, .long v12), (14, .int v14)] [.int r25] Z I21 L22 0 0
      refine j_iload E dX7_leastJoined_103 11 rfl ?_
      refine j_icmp_gt E 114 dX7_leastJoined_105 (by decide) (fun c26 => ?_) (fun c26 => ?_)
      · have h := h.1 c26
        refine j_sub [0, 1, 2, 3, 4, 5, 6, 7, 8, 9, 10] rfl ?_
        exact m_X7_leastJoined_b114 E hZ K31 hK31 v0 v1 v2 v3 v4 v5 v6 v7 v9 v11 v12 I21 L22 kv0 kv2 h
      · have h := h.2 c26
        obtain ⟨x27, ex27⟩ : ∃ y : Int32, y = v6 + (-1) := ⟨_, rfl⟩
        have h := h x27 ex27
        refine j_iinc E x27 [(6, .int x27), (0, .ref v0), (1, .int v1), (2, .ref v2), (3, .int v3), (4, .int v4), (5, .int v5), (7, .long v7), (9, .long v9), (11, .int v11), (12, .long v12), (14, .int v14)] dX7_leastJoined_108 6 rfl (by rw [ex27]; rfl) (by decide) rfl ?_
        refine j_goto E 86 dX7_leastJoined_111 (by decide) ?_
        refine j_sub [1, 2, 3, 4, 5, 6, 0, 7, 8, 9, 10, 11] rfl ?_
        exact hK86 v0 v1 v2 v3 v4 v5 x27 v7 v9 v11 v12 v14 I21 L22 kv0 kv2 h
set_option maxRecDepth 100000 in
def f_X7_leastJoined_L31  (Z : jZ) (Q : Int64 → jI → jL → Prop) : Nat → Nat → Int32 → Nat → Int32 → Int32 → Int32 → Int32 → Int64 → Int64 → Int32 → jI → jL → Prop
  | 0 => fun _ _ _ _ _ _ _ _ _ _ _ _ => False
  | n + 1 => fun v0 v1 v2 v3 v4 v5 v6 v7 v9 v11 I L => (f_X7_sizeAt v0 v1 Z I L (fun r34 I30 L31 => ((r34 ≤ v11 → f_X7_leastJoined_b148  Z Q v7 I30 L31) ∧ (¬ (r34 ≤ v11) → ((v5 ≤ 0 → f_X7_leastJoined_b148  Z Q v7 I30 L31) ∧ (¬ (v5 ≤ 0) → (∀ b37 : Nat, jr Z v0 0 = some b37 → (∀ b38 : Nat, jr Z v0 1 = some b38 → (vp_in v1 25 ∧ (vp_in ((I30 b38 v1.toNatClampNeg) + v11) (jlen Z b37) ∧ (∀ x41 : Int64, x41 = (L31 b37 ((I30 b38 v1.toNatClampNeg) + v11).toNatClampNeg) → (((lg_cmp (x41 + v9) v7) < 0 → (f_X11_effortIn x41 Z I30 L31 (fun r49 I45 L46 => (∀ x50 : Int32, x50 = (v4 - r49) → (∃ m86 : Nat, f_X7_leastJoined_L86 (f_X7_leastJoined_L31 Z Q n) Z Q m86 v0 v1 v2 v3 v4 v5 v6 v7 v9 v11 x41 x50 I45 L46))))) ∧ (¬ ((lg_cmp (x41 + v9) v7) < 0) → Q v7 I30 L31)))))))))))))
set_option maxHeartbeats 4000000 in
set_option maxRecDepth 100000 in
theorem m_X7_leastJoined_L31 {G : jG} {Z : jZ} {Q : Int64 → jI → jL → Prop} (E : jE G cX7_leastJoined RX7 w_X7_leastJoined 15 (some .long) { frames := 2, cells := 0, slots := 0, locals := 43 } (rtL Z Q)) (hZ : SH Z)  : ∀ (n : Nat) (v0 : Nat) (v1 : Int32) (v2 : Nat) (v3 : Int32) (v4 : Int32) (v5 : Int32) (v6 : Int32) (v7 : Int64) (v9 : Int64) (v11 : Int32) (I : jI) (L : jL), jk Z v0 7 → jk Z v2 7 → f_X7_leastJoined_L31  Z Q n v0 v1 v2 v3 v4 v5 v6 v7 v9 v11 I L → jJ G 15 31 [(0, .ref v0), (1, .int v1), (2, .ref v2), (3, .int v3), (4, .int v4), (5, .int v5), (6, .int v6), (7, .long v7), (9, .long v9), (11, .int v11)] [] Z I L 0 0 := by
  intro n
  induction n with
  | zero => intro v0 v1 v2 v3 v4 v5 v6 v7 v9 v11 I L _ _ h; exact h.elim
  | succ n ih =>
    intro v0 v1 v2 v3 v4 v5 v6 v7 v9 v11 I L kv0 kv2 h
    have h : (f_X7_sizeAt v0 v1 Z I L (fun r34 I30 L31 => ((r34 ≤ v11 → f_X7_leastJoined_b148  Z Q v7 I30 L31) ∧ (¬ (r34 ≤ v11) → ((v5 ≤ 0 → f_X7_leastJoined_b148  Z Q v7 I30 L31) ∧ (¬ (v5 ≤ 0) → (∀ b37 : Nat, jr Z v0 0 = some b37 → (∀ b38 : Nat, jr Z v0 1 = some b38 → (vp_in v1 25 ∧ (vp_in ((I30 b38 v1.toNatClampNeg) + v11) (jlen Z b37) ∧ (∀ x41 : Int64, x41 = (L31 b37 ((I30 b38 v1.toNatClampNeg) + v11).toNatClampNeg) → (((lg_cmp (x41 + v9) v7) < 0 → (f_X11_effortIn x41 Z I30 L31 (fun r49 I45 L46 => (∀ x50 : Int32, x50 = (v4 - r49) → (∃ m86 : Nat, f_X7_leastJoined_L86 (f_X7_leastJoined_L31 Z Q n) Z Q m86 v0 v1 v2 v3 v4 v5 v6 v7 v9 v11 x41 x50 I45 L46))))) ∧ (¬ ((lg_cmp (x41 + v9) v7) < 0) → Q v7 I30 L31))))))))))))) := h
    obtain ⟨K31, eK31⟩ : ∃ K : Nat → Int32 → Nat → Int32 → Int32 → Int32 → Int32 → Int64 → Int64 → Int32 → jI → jL → Prop, K = f_X7_leastJoined_L31  Z Q n := ⟨_, rfl⟩
    have hK31 := ih
    clear eK31 K31
    generalize f_X7_leastJoined_L31  Z Q n = K31 at hK31 h
    refine j_iload E dX7_leastJoined_31 9 rfl ?_
    refine j_aload_n E dX7_leastJoined_33 0 rfl ?_
    refine j_iload_n E dX7_leastJoined_34 1 rfl ?_
    refine j_callV E [.int v1] [.int v11] (c_X7_sizeAt (gL G) (gD G) (gY G) v0 v1 Z I L _ hZ kv0 h) (gwV W_43 W_44 W_45 W_24 W_42) rfl ⟨rfl, fy_X7_sizeAt⟩ ⟨by decide, by decide⟩ (c := 7) rfl (by decide) kv0 rfl rfl (Nat.le_of_ble_eq_true rfl) ⟨Nat.zero_le _, Nat.zero_le _⟩ dX7_leastJoined_35 (fun v28 Z29 I30 L31 q32 => ?_)
    obtain ⟨rfl, r34, rfl, h⟩ := q32
    show jJ G 15 38 [(0, .ref v0), (1, .int v1), (2, .ref v2), (3, .int v3), (4, .int v4), (5, .int v5), (6, .int v6), (7, .long v7), (9, .long v9), (11, .int v11)] [.int r34, .int v11] Z I30 L31 0 0
    refine j_icmp_ge E 148 dX7_leastJoined_38 (by decide) (fun c35 => ?_) (fun c35 => ?_)
    · have h := h.1 c35
      refine j_sub [7] rfl ?_
      exact m_X7_leastJoined_b148 E hZ  v7 I30 L31  h
    · have h := h.2 c35
      refine j_iload E dX7_leastJoined_41 5 rfl ?_
      refine j_if_le E 148 dX7_leastJoined_43 (by decide) (fun c36 => ?_) (fun c36 => ?_)
      · have h := h.1 c36
        refine j_sub [7] rfl ?_
        exact m_X7_leastJoined_b148 E hZ  v7 I30 L31  h
      · have h := h.2 c36
        refine j_aload_n E dX7_leastJoined_46 0 rfl ?_
        obtain ⟨b37, eb37, kb37⟩ := sh_o hZ kv0 (j := 0) (k := 15) rfl
        have h := h b37 eb37
        refine j_getr E 7 0 rfl rfl (by decide) (by decide) (iw iT_7) rfl rfl (tw W_14) kv0 eb37 dX7_leastJoined_47 ?_
        refine j_aload_n E dX7_leastJoined_50 0 rfl ?_
        obtain ⟨b38, eb38, kb38, lb38⟩ := sh_f hZ kv0 (j := 1) (k := 14) (m := 25) rfl
        have h := h b38 eb38
        refine j_getr E 7 1 rfl rfl (by decide) (by decide) (iw iT_7) rfl rfl (tw W_2) kv0 eb38 dX7_leastJoined_51 ?_
        refine j_iload_n E dX7_leastJoined_54 1 rfl ?_
        obtain ⟨o39, h⟩ := h
        refine j_iald E kb38 (by rw [lb38]; exact o39) dX7_leastJoined_55 ?_
        refine j_iload E dX7_leastJoined_56 9 rfl ?_
        refine j_iadd E dX7_leastJoined_58 ?_
        obtain ⟨o40, h⟩ := h
        refine j_lald E kb37 o40 dX7_leastJoined_59 ?_
        refine j_topl (fun x41 ex41 => ?_)
        have h := h x41 ex41
        refine j_lstore E 12 [(12, .long x41), (0, .ref v0), (1, .int v1), (2, .ref v2), (3, .int v3), (4, .int v4), (5, .int v5), (6, .int v6), (7, .long v7), (9, .long v9), (11, .int v11)] dX7_leastJoined_60 (by decide) rfl ?_
        refine j_lload E dX7_leastJoined_62 0 rfl ?_
        refine j_lload E dX7_leastJoined_64 9 rfl ?_
        refine j_ladd E dX7_leastJoined_66 ?_
        refine j_lload E dX7_leastJoined_67 8 rfl ?_
        refine j_lcmp E dX7_leastJoined_69 ?_
        refine j_if_lt E 76 dX7_leastJoined_70 (by decide) (fun c42 => ?_) (fun c42 => ?_)
        · have h := h.1 c42
          refine j_iload E dX7_leastJoined_76 5 rfl ?_
          refine j_lload E dX7_leastJoined_78 0 rfl ?_
          refine j_callSN E [.long x41] [.int v4] (c_X11_effortIn (gL G) (gD G) (gY G) x41 Z I30 L31 _ hZ  h) (gwN W_68) rfl (nm_X11_effortIn_X7_75) (tw W_40) (tw W_69) fy_X11_effortIn ⟨by decide, by decide⟩ rfl rfl (Nat.le_of_ble_eq_true rfl) ⟨Nat.zero_le _, Nat.zero_le _⟩ dX7_leastJoined_80 (fun v43 Z44 I45 L46 q47 => ?_)
          obtain ⟨rfl, r49, rfl, h⟩ := q47
          show jJ G 15 83 [(12, .long x41), (0, .ref v0), (1, .int v1), (2, .ref v2), (3, .int v3), (4, .int v4), (5, .int v5), (6, .int v6), (7, .long v7), (9, .long v9), (11, .int v11)] [.int r49, .int v4] Z I45 L46 0 0
          refine j_isub E dX7_leastJoined_83 ?_
          refine j_topi (fun x50 ex50 => ?_)
          have h := h x50 ex50
          refine j_istore E 14 [(14, .int x50), (12, .long x41), (0, .ref v0), (1, .int v1), (2, .ref v2), (3, .int v3), (4, .int v4), (5, .int v5), (6, .int v6), (7, .long v7), (9, .long v9), (11, .int v11)] dX7_leastJoined_84 (by decide) rfl ?_
          obtain ⟨n51, h⟩ := h
          refine j_sub [2, 3, 4, 5, 6, 7, 8, 9, 10, 11, 1, 0] rfl ?_
          exact m_X7_leastJoined_L86 E hZ K31 hK31 n51 v0 v1 v2 v3 v4 v5 v6 v7 v9 v11 x41 x50 I45 L46 kv0 kv2 h
        · have h := h.2 c42
          refine j_lload E dX7_leastJoined_73 8 rfl ?_
          exact j_lreturn E ⟨rfl, _, rfl, h⟩ (Nat.zero_le _) (Nat.zero_le _) dX7_leastJoined_75
set_option maxRecDepth 100000 in
def f_X7_leastJoined (v0 : Nat) (v1 : Int32) (v2 : Nat) (v3 : Int32) (v4 : Int32) (Z : jZ) (I : jI) (L : jL) (Q : Int64 → jI → jL → Prop) : Prop := (f_X7_sizeAt v2 v3 Z I L (fun r58 I54 L55 => (f_X7_keyAt v2 v3 (0 : Int32) Z I54 L55 (fun r65 I61 L62 => (∀ x66 : Int64, x66 = (r65 - (16777215 : Int64)) → (∃ m31 : Nat, f_X7_leastJoined_L31  Z Q m31 v0 v1 v2 v3 v4 r58 r58 (9223372036854775807 : Int64) x66 (0 : Int32) I61 L62))))))
set_option maxHeartbeats 4000000 in
set_option maxRecDepth 100000 in
theorem c_X7_leastJoined (l : Launch) (D : va_G) (cy : jC) (v0 : Nat) (v1 : Int32) (v2 : Nat) (v3 : Int32) (v4 : Int32) (Z : jZ) (I : jI) (L : jL) (Q : Int64 → jI → jL → Prop) (hZ : SH Z) (kv0 : jk Z v0 7) (kv2 : jk Z v2 7) (h : f_X7_leastJoined v0 v1 v2 v3 v4 Z I L Q) : jCt l yX7_leastJoined w_X7_leastJoined { frames := 2, cells := 0, slots := 0, locals := 43 } D cy [.ref v0, .int v1, .ref v2, .int v3, .int v4] Z I L (rtL Z Q) := by
  refine jCt_of (cc := cX7_leastJoined) (maxL := 15) (ret := (some .long)) (by decide +kernel) rfl (Nat.le_of_ble_eq_true rfl) ?_
  intro G eD eY eL E
  subst eD; subst eY; subst eL
  have E : jE G cX7_leastJoined RX7 w_X7_leastJoined 15 (some .long) { frames := 2, cells := 0, slots := 0, locals := 43 } (rtL Z Q) := E
  show jJ G 15 0 [(0, .ref v0), (1, .int v1), (2, .ref v2), (3, .int v3), (4, .int v4)] [] Z I L 0 0
  refine j_aload_n E dX7_leastJoined_0 2 rfl ?_
  refine j_iload_n E dX7_leastJoined_1 3 rfl ?_
  refine j_callV E [.int v3] [] (c_X7_sizeAt (gL G) (gD G) (gY G) v2 v3 Z I L _ hZ kv2 h) (gwV W_43 W_44 W_45 W_24 W_42) rfl ⟨rfl, fy_X7_sizeAt⟩ ⟨by decide, by decide⟩ (c := 7) rfl (by decide) kv2 rfl rfl (Nat.le_of_ble_eq_true rfl) ⟨Nat.zero_le _, Nat.zero_le _⟩ dX7_leastJoined_2 (fun v52 Z53 I54 L55 q56 => ?_)
  obtain ⟨rfl, r58, rfl, h⟩ := q56
  show jJ G 15 5 [(0, .ref v0), (1, .int v1), (2, .ref v2), (3, .int v3), (4, .int v4)] [.int r58] Z I54 L55 0 0
  refine j_istore E 5 [(5, .int r58), (0, .ref v0), (1, .int v1), (2, .ref v2), (3, .int v3), (4, .int v4)] dX7_leastJoined_5 (by decide) rfl ?_
  refine j_iload E dX7_leastJoined_7 0 rfl ?_
  refine j_istore E 6 [(6, .int r58), (5, .int r58), (0, .ref v0), (1, .int v1), (2, .ref v2), (3, .int v3), (4, .int v4)] dX7_leastJoined_9 (by decide) rfl ?_
  refine j_ldc2 E (tw W_61) dX7_leastJoined_11 ?_
  refine j_lstore E 7 [(7, .long (9223372036854775807 : Int64)), (6, .int r58), (5, .int r58), (0, .ref v0), (1, .int v1), (2, .ref v2), (3, .int v3), (4, .int v4)] dX7_leastJoined_14 (by decide) rfl ?_
  refine j_aload_n E dX7_leastJoined_16 5 rfl ?_
  refine j_iload_n E dX7_leastJoined_17 6 rfl ?_
  refine j_iconst E (v := 0) dX7_leastJoined_18 (by decide) ?_
  refine j_callV E [.int v3, .int (0 : Int32)] [] (c_X7_keyAt (gL G) (gD G) (gY G) v2 v3 (0 : Int32) Z I54 L55 _ hZ kv2 h) (gwV W_339 W_74 W_75 W_24 W_72) rfl ⟨rfl, fy_X7_keyAt⟩ ⟨by decide, by decide⟩ (c := 7) rfl (by decide) kv2 rfl rfl (Nat.le_of_ble_eq_true rfl) ⟨Nat.zero_le _, Nat.zero_le _⟩ dX7_leastJoined_19 (fun v59 Z60 I61 L62 q63 => ?_)
  obtain ⟨rfl, r65, rfl, h⟩ := q63
  show jJ G 15 22 [(7, .long (9223372036854775807 : Int64)), (6, .int r58), (5, .int r58), (0, .ref v0), (1, .int v1), (2, .ref v2), (3, .int v3), (4, .int v4)] [.long r65] Z I61 L62 0 0
  refine j_ldc2 E (tw W_340) dX7_leastJoined_22 ?_
  refine j_lsub E dX7_leastJoined_25 ?_
  refine j_topl (fun x66 ex66 => ?_)
  have h := h x66 ex66
  refine j_lstore E 9 [(9, .long x66), (7, .long (9223372036854775807 : Int64)), (6, .int r58), (5, .int r58), (0, .ref v0), (1, .int v1), (2, .ref v2), (3, .int v3), (4, .int v4)] dX7_leastJoined_26 (by decide) rfl ?_
  refine j_iconst E (v := 0) dX7_leastJoined_28 (by decide) ?_
  refine j_istore E 11 [(11, .int (0 : Int32)), (9, .long x66), (7, .long (9223372036854775807 : Int64)), (6, .int r58), (5, .int r58), (0, .ref v0), (1, .int v1), (2, .ref v2), (3, .int v3), (4, .int v4)] dX7_leastJoined_29 (by decide) rfl ?_
  obtain ⟨n67, h⟩ := h
  refine j_sub [5, 6, 7, 8, 9, 4, 3, 2, 1, 0] rfl ?_
  exact m_X7_leastJoined_L31 E hZ  n67 v0 v1 v2 v3 v4 r58 r58 (9223372036854775807 : Int64) x66 (0 : Int32) I61 L62 kv0 kv2 h
set_option maxRecDepth 100000 in
def f_X8_pricesInto_b130 (K79 : Nat → Nat → Nat → Int32 → Int32 → Int32 → jI → jL → Prop) (Z : jZ) (Q : jI → jL → Prop) (v0 : Nat) (v1 : Nat) (v7 : Nat) (v8 : Int32) (v9 : Int32) (v10 : Int32) (s0 : Nat) (s1 : Int32) (s2 : Int32) (I : jI) (L : jL) : Prop := (vp_in s1 (jlen Z s0) ∧ (∀ I2 : jI, I2 = jpI I s0 s1.toNatClampNeg s2 → (∀ x3 : Int32, x3 = v10 + 1 → K79 v0 v1 v7 v8 v9 x3 I2 L)))
set_option maxHeartbeats 4000000 in
set_option maxRecDepth 100000 in
theorem m_X8_pricesInto_b130 {G : jG} {Z : jZ} {Q : jI → jL → Prop} (E : jE G cX8_pricesInto RX8 w_X8_pricesInto 11 none { frames := 2, cells := 0, slots := 0, locals := 48 } (rtV Z Q)) (hZ : SH Z) (K79 : Nat → Nat → Nat → Int32 → Int32 → Int32 → jI → jL → Prop) (hK79 : ∀ (v0 : Nat) (v1 : Nat) (v7 : Nat) (v8 : Int32) (v9 : Int32) (v10 : Int32) (I : jI) (L : jL), jk Z v0 8 → jk Z v1 14 → jk Z v7 3 → K79 v0 v1 v7 v8 v9 v10 I L → jJ G 11 79 [(0, .ref v0), (1, .ref v1), (7, .ref v7), (8, .int v8), (9, .int v9), (10, .int v10)] [] Z I L 0 0) (v0 : Nat) (v1 : Nat) (v7 : Nat) (v8 : Int32) (v9 : Int32) (v10 : Int32) (s0 : Nat) (s1 : Int32) (s2 : Int32) (I : jI) (L : jL) (kv0 : jk Z v0 8) (kv1 : jk Z v1 14) (kv7 : jk Z v7 3) (ks0 : jk Z s0 14) (h : f_X8_pricesInto_b130 K79 Z Q v0 v1 v7 v8 v9 v10 s0 s1 s2 I L) : jJ G 11 130 [(0, .ref v0), (1, .ref v1), (7, .ref v7), (8, .int v8), (9, .int v9), (10, .int v10)] [.int s2, .int s1, .ref s0] Z I L 0 0 := by
  obtain ⟨o1, h⟩ := h
  refine j_iast E ks0 o1 dX8_pricesInto_130 ?_
  refine j_nmI (fun I2 eI2 => ?_)
  have h := h I2 eI2
  obtain ⟨x3, ex3⟩ : ∃ y : Int32, y = v10 + 1 := ⟨_, rfl⟩
  have h := h x3 ex3
  refine j_iinc E x3 [(10, .int x3), (0, .ref v0), (1, .ref v1), (7, .ref v7), (8, .int v8), (9, .int v9)] dX8_pricesInto_131 5 rfl (by rw [ex3]; rfl) (by decide) rfl ?_
  refine j_goto E 79 dX8_pricesInto_134 (by decide) ?_
  refine j_sub [1, 2, 3, 4, 5, 0] rfl ?_
  exact hK79 v0 v1 v7 v8 v9 x3 I2 L kv0 kv1 kv7 h
set_option maxRecDepth 100000 in
def f_X8_pricesInto_L79  (Z : jZ) (Q : jI → jL → Prop) : Nat → Nat → Nat → Nat → Int32 → Int32 → Int32 → jI → jL → Prop
  | 0 => fun _ _ _ _ _ _ _ _ => False
  | n + 1 => fun v0 v1 v7 v8 v9 v10 I L => (((nI (jlen Z v1)) ≤ v10 → Q I L) ∧ (¬ ((nI (jlen Z v1)) ≤ v10) → (∀ b5 : Nat, jr Z v0 8 = some b5 → (∀ I6 : jI, I6 = jpI I b5 (0 : Int32).toNatClampNeg v10 → ((v8 = 0 → (f_X3_names v7 (0 : Int32) Z I6 L (fun r14 I10 L11 => ((r14 = 0 → f_X8_pricesInto_b130 (f_X8_pricesInto_L79 Z Q n) Z Q v0 v1 v7 v8 v9 v10 v1 v10 v9 I10 L11) ∧ (¬ (r14 = 0) → (∀ b16 : Nat, jr Z v0 8 = some b16 → (f_X3_priceFor v7 b16 Z I10 L11 (fun r23 I19 L20 => f_X8_pricesInto_b130 (f_X8_pricesInto_L79 Z Q n) Z Q v0 v1 v7 v8 v9 v10 v1 v10 r23 I19 L20)))))))) ∧ (¬ (v8 = 0) → f_X8_pricesInto_b130 (f_X8_pricesInto_L79 Z Q n) Z Q v0 v1 v7 v8 v9 v10 v1 v10 v10 I6 L))))))
set_option maxHeartbeats 4000000 in
set_option maxRecDepth 100000 in
theorem m_X8_pricesInto_L79 {G : jG} {Z : jZ} {Q : jI → jL → Prop} (E : jE G cX8_pricesInto RX8 w_X8_pricesInto 11 none { frames := 2, cells := 0, slots := 0, locals := 48 } (rtV Z Q)) (hZ : SH Z)  : ∀ (n : Nat) (v0 : Nat) (v1 : Nat) (v7 : Nat) (v8 : Int32) (v9 : Int32) (v10 : Int32) (I : jI) (L : jL), jk Z v0 8 → jk Z v1 14 → jk Z v7 3 → f_X8_pricesInto_L79  Z Q n v0 v1 v7 v8 v9 v10 I L → jJ G 11 79 [(0, .ref v0), (1, .ref v1), (7, .ref v7), (8, .int v8), (9, .int v9), (10, .int v10)] [] Z I L 0 0 := by
  intro n
  induction n with
  | zero => intro v0 v1 v7 v8 v9 v10 I L _ _ _ h; exact h.elim
  | succ n ih =>
    intro v0 v1 v7 v8 v9 v10 I L kv0 kv1 kv7 h
    have h : (((nI (jlen Z v1)) ≤ v10 → Q I L) ∧ (¬ ((nI (jlen Z v1)) ≤ v10) → (∀ b5 : Nat, jr Z v0 8 = some b5 → (∀ I6 : jI, I6 = jpI I b5 (0 : Int32).toNatClampNeg v10 → ((v8 = 0 → (f_X3_names v7 (0 : Int32) Z I6 L (fun r14 I10 L11 => ((r14 = 0 → f_X8_pricesInto_b130 (f_X8_pricesInto_L79 Z Q n) Z Q v0 v1 v7 v8 v9 v10 v1 v10 v9 I10 L11) ∧ (¬ (r14 = 0) → (∀ b16 : Nat, jr Z v0 8 = some b16 → (f_X3_priceFor v7 b16 Z I10 L11 (fun r23 I19 L20 => f_X8_pricesInto_b130 (f_X8_pricesInto_L79 Z Q n) Z Q v0 v1 v7 v8 v9 v10 v1 v10 r23 I19 L20)))))))) ∧ (¬ (v8 = 0) → f_X8_pricesInto_b130 (f_X8_pricesInto_L79 Z Q n) Z Q v0 v1 v7 v8 v9 v10 v1 v10 v10 I6 L)))))) := h
    obtain ⟨K79, eK79⟩ : ∃ K : Nat → Nat → Nat → Int32 → Int32 → Int32 → jI → jL → Prop, K = f_X8_pricesInto_L79  Z Q n := ⟨_, rfl⟩
    have hK79 := ih
    clear eK79 K79
    generalize f_X8_pricesInto_L79  Z Q n = K79 at hK79 h
    refine j_iload E dX8_pricesInto_79 5 rfl ?_
    refine j_aload_n E dX8_pricesInto_81 1 rfl ?_
    refine j_alen14 E kv1 rfl dX8_pricesInto_82 ?_
    refine j_icmp_ge E 137 dX8_pricesInto_83 (by decide) (fun c4 => ?_) (fun c4 => ?_)
    · have h := h.1 c4
      exact j_return E ⟨rfl, rfl, h⟩ (Nat.zero_le _) (Nat.zero_le _) dX8_pricesInto_137
    · have h := h.2 c4
      refine j_aload_n E dX8_pricesInto_86 0 rfl ?_
      obtain ⟨b5, eb5, kb5, lb5⟩ := sh_f hZ kv0 (j := 8) (k := 14) (m := 7) rfl
      have h := h b5 eb5
      refine j_getr E 8 8 rfl rfl (by decide) (by decide) (iw iT_8) rfl rfl (tw W_252) kv0 eb5 dX8_pricesInto_87 ?_
      refine j_iconst E (v := 0) dX8_pricesInto_90 (by decide) ?_
      refine j_iload E dX8_pricesInto_91 5 rfl ?_
      refine j_iast E kb5 (by rw [lb5]; exact vp_in_lit (by decide)) dX8_pricesInto_93 ?_
      refine j_nmI (fun I6 eI6 => ?_)
      have h := h I6 eI6
      refine j_aload_n E dX8_pricesInto_94 1 rfl ?_
      refine j_iload E dX8_pricesInto_95 5 rfl ?_
      refine j_iload E dX8_pricesInto_97 3 rfl ?_
      refine j_if_eq E 107 dX8_pricesInto_99 (by decide) (fun c7 => ?_) (fun c7 => ?_)
      · have h := h.1 c7
        refine j_aload E dX8_pricesInto_107 2 rfl ?_
        refine j_iconst E (v := 0) dX8_pricesInto_109 (by decide) ?_
        refine j_callV E [.int (0 : Int32)] [.int v10, .ref v1] (c_X3_names (gL G) (gD G) (gY G) v7 (0 : Int32) Z I6 L _ hZ kv7 h) (gwV W_345 W_346 W_347 W_179 W_344) rfl ⟨rfl, fy_X3_names⟩ ⟨by decide, by decide⟩ (c := 3) rfl (by decide) kv7 rfl rfl (Nat.le_of_ble_eq_true rfl) ⟨Nat.zero_le _, Nat.zero_le _⟩ dX8_pricesInto_110 (fun v8 Z9 I10 L11 q12 => ?_)
        obtain ⟨rfl, r14, rfl, zr14, h⟩ := q12
        show jJ G 11 113 [(0, .ref v0), (1, .ref v1), (7, .ref v7), (8, .int v8), (9, .int v9), (10, .int v10)] [.int r14, .int v10, .ref v1] Z I10 L11 0 0
        refine j_if_eq E 128 dX8_pricesInto_113 (by decide) (fun c15 => ?_) (fun c15 => ?_)
        · have h := h.1 c15
          refine j_iload E dX8_pricesInto_128 4 rfl ?_
          refine j_sub [0, 1, 2, 3, 4, 5] rfl ?_
          exact m_X8_pricesInto_b130 E hZ K79 hK79 v0 v1 v7 v8 v9 v10 v1 v10 v9 I10 L11 kv0 kv1 kv7 kv1 h
        · have h := h.2 c15
          refine j_aload E dX8_pricesInto_116 2 rfl ?_
          refine j_aload_n E dX8_pricesInto_118 0 rfl ?_
          obtain ⟨b16, eb16, kb16, lb16⟩ := sh_f hZ kv0 (j := 8) (k := 14) (m := 7) rfl
          have h := h b16 eb16
          refine j_getr E 8 8 rfl rfl (by decide) (by decide) (iw iT_8) rfl rfl (tw W_252) kv0 eb16 dX8_pricesInto_119 ?_
          refine j_callV E [.ref b16] [.int v10, .ref v1] (c_X3_priceFor (gL G) (gD G) (gY G) v7 b16 Z I10 L11 _ hZ kv7 kb16 h) (gwV W_277 W_278 W_279 W_179 W_276) rfl ⟨rfl, fy_X3_priceFor⟩ ⟨by decide, by decide⟩ (c := 3) rfl (by decide) kv7 rfl rfl (Nat.le_of_ble_eq_true rfl) ⟨Nat.zero_le _, Nat.zero_le _⟩ dX8_pricesInto_122 (fun v17 Z18 I19 L20 q21 => ?_)
          obtain ⟨rfl, r23, rfl, h⟩ := q21
          show jJ G 11 125 [(0, .ref v0), (1, .ref v1), (7, .ref v7), (8, .int v8), (9, .int v9), (10, .int v10)] [.int r23, .int v10, .ref v1] Z I19 L20 0 0
          refine j_goto E 130 dX8_pricesInto_125 (by decide) ?_
          refine j_sub [0, 1, 2, 3, 4, 5] rfl ?_
          exact m_X8_pricesInto_b130 E hZ K79 hK79 v0 v1 v7 v8 v9 v10 v1 v10 r23 I19 L20 kv0 kv1 kv7 kv1 h
      · have h := h.2 c7
        refine j_iload E dX8_pricesInto_102 5 rfl ?_
        refine j_goto E 130 dX8_pricesInto_104 (by decide) ?_
        refine j_sub [0, 1, 2, 3, 4, 5] rfl ?_
        exact m_X8_pricesInto_b130 E hZ K79 hK79 v0 v1 v7 v8 v9 v10 v1 v10 v10 I6 L kv0 kv1 kv7 kv1 h
set_option maxRecDepth 100000 in
def f_X8_pricesInto_b52  (Z : jZ) (Q : jI → jL → Prop) (v0 : Nat) (v1 : Nat) (v3 : Int32) (v4 : Int32) (v5 : Int32) (v6 : Int32) (v7 : Nat) (s0 : Int32) (I : jI) (L : jL) : Prop := (f_X8_putLetters v0 v3 v4 v5 v6 Z I L (fun I26 L27 => (∀ b30 : Nat, jr Z v0 8 = some b30 → (f_X3_priceFor v7 b30 Z I26 L27 (fun r37 I33 L34 => (∃ m79 : Nat, f_X8_pricesInto_L79  Z Q m79 v0 v1 v7 s0 r37 (0 : Int32) I33 L34))))))
set_option maxHeartbeats 4000000 in
set_option maxRecDepth 100000 in
theorem m_X8_pricesInto_b52 {G : jG} {Z : jZ} {Q : jI → jL → Prop} (E : jE G cX8_pricesInto RX8 w_X8_pricesInto 11 none { frames := 2, cells := 0, slots := 0, locals := 48 } (rtV Z Q)) (hZ : SH Z)  (v0 : Nat) (v1 : Nat) (v3 : Int32) (v4 : Int32) (v5 : Int32) (v6 : Int32) (v7 : Nat) (s0 : Int32) (I : jI) (L : jL) (kv0 : jk Z v0 8) (kv1 : jk Z v1 14) (kv7 : jk Z v7 3) (h : f_X8_pricesInto_b52  Z Q v0 v1 v3 v4 v5 v6 v7 s0 I L) : jJ G 11 52 [(0, .ref v0), (1, .ref v1), (3, .int v3), (4, .int v4), (5, .int v5), (6, .int v6), (7, .ref v7)] [.int s0] Z I L 0 0 := by
  refine j_istore E 8 [(8, .int s0), (0, .ref v0), (1, .ref v1), (3, .int v3), (4, .int v4), (5, .int v5), (6, .int v6), (7, .ref v7)] dX8_pricesInto_52 (by decide) rfl ?_
  refine j_aload_n E dX8_pricesInto_54 1 rfl ?_
  refine j_iload_n E dX8_pricesInto_55 3 rfl ?_
  refine j_iload E dX8_pricesInto_56 4 rfl ?_
  refine j_iload E dX8_pricesInto_58 5 rfl ?_
  refine j_iload E dX8_pricesInto_60 6 rfl ?_
  refine j_callV E [.int v3, .int v4, .int v5, .int v6] [] (c_X8_putLetters (gL G) (gD G) (gY G) v0 v3 v4 v5 v6 Z I L _ hZ kv0 h) (gwV W_273 W_274 W_275 W_254 W_272) rfl ⟨rfl, fy_X8_putLetters⟩ ⟨by decide, by decide⟩ (c := 8) rfl (by decide) kv0 rfl rfl (Nat.le_of_ble_eq_true rfl) ⟨Nat.zero_le _, Nat.zero_le _⟩ dX8_pricesInto_62 (fun v24 Z25 I26 L27 q28 => ?_)
  obtain ⟨rfl, rfl, h⟩ := q28
  show jJ G 11 65 [(8, .int s0), (0, .ref v0), (1, .ref v1), (3, .int v3), (4, .int v4), (5, .int v5), (6, .int v6), (7, .ref v7)] [] Z I26 L27 0 0
  refine j_aload E dX8_pricesInto_65 7 rfl ?_
  refine j_aload_n E dX8_pricesInto_67 1 rfl ?_
  obtain ⟨b30, eb30, kb30, lb30⟩ := sh_f hZ kv0 (j := 8) (k := 14) (m := 7) rfl
  have h := h b30 eb30
  refine j_getr E 8 8 rfl rfl (by decide) (by decide) (iw iT_8) rfl rfl (tw W_252) kv0 eb30 dX8_pricesInto_68 ?_
  refine j_callV E [.ref b30] [] (c_X3_priceFor (gL G) (gD G) (gY G) v7 b30 Z I26 L27 _ hZ kv7 kb30 h) (gwV W_277 W_278 W_279 W_179 W_276) rfl ⟨rfl, fy_X3_priceFor⟩ ⟨by decide, by decide⟩ (c := 3) rfl (by decide) kv7 rfl rfl (Nat.le_of_ble_eq_true rfl) ⟨Nat.zero_le _, Nat.zero_le _⟩ dX8_pricesInto_71 (fun v31 Z32 I33 L34 q35 => ?_)
  obtain ⟨rfl, r37, rfl, h⟩ := q35
  show jJ G 11 74 [(8, .int s0), (0, .ref v0), (1, .ref v1), (3, .int v3), (4, .int v4), (5, .int v5), (6, .int v6), (7, .ref v7)] [.int r37] Z I33 L34 0 0
  refine j_istore E 9 [(9, .int r37), (8, .int s0), (0, .ref v0), (1, .ref v1), (3, .int v3), (4, .int v4), (5, .int v5), (6, .int v6), (7, .ref v7)] dX8_pricesInto_74 (by decide) rfl ?_
  refine j_iconst E (v := 0) dX8_pricesInto_76 (by decide) ?_
  refine j_istore E 10 [(10, .int (0 : Int32)), (9, .int r37), (8, .int s0), (0, .ref v0), (1, .ref v1), (3, .int v3), (4, .int v4), (5, .int v5), (6, .int v6), (7, .ref v7)] dX8_pricesInto_77 (by decide) rfl ?_
  obtain ⟨n38, h⟩ := h
  refine j_sub [3, 4, 9, 2, 1, 0] rfl ?_
  exact m_X8_pricesInto_L79 E hZ  n38 v0 v1 v7 s0 r37 (0 : Int32) I33 L34 kv0 kv1 kv7 h
set_option maxRecDepth 100000 in
def f_X8_pricesInto_b51  (Z : jZ) (Q : jI → jL → Prop) (v0 : Nat) (v1 : Nat) (v3 : Int32) (v4 : Int32) (v5 : Int32) (v6 : Int32) (v7 : Nat) (I : jI) (L : jL) : Prop := f_X8_pricesInto_b52  Z Q v0 v1 v3 v4 v5 v6 v7 (0 : Int32) I L
set_option maxHeartbeats 4000000 in
set_option maxRecDepth 100000 in
theorem m_X8_pricesInto_b51 {G : jG} {Z : jZ} {Q : jI → jL → Prop} (E : jE G cX8_pricesInto RX8 w_X8_pricesInto 11 none { frames := 2, cells := 0, slots := 0, locals := 48 } (rtV Z Q)) (hZ : SH Z)  (v0 : Nat) (v1 : Nat) (v3 : Int32) (v4 : Int32) (v5 : Int32) (v6 : Int32) (v7 : Nat) (I : jI) (L : jL) (kv0 : jk Z v0 8) (kv1 : jk Z v1 14) (kv7 : jk Z v7 3) (h : f_X8_pricesInto_b51  Z Q v0 v1 v3 v4 v5 v6 v7 I L) : jJ G 11 51 [(0, .ref v0), (1, .ref v1), (3, .int v3), (4, .int v4), (5, .int v5), (6, .int v6), (7, .ref v7)] [] Z I L 0 0 := by
  refine j_iconst E (v := 0) dX8_pricesInto_51 (by decide) ?_
  refine j_sub [0, 1, 2, 3, 4, 5, 6] rfl ?_
  exact m_X8_pricesInto_b52 E hZ  v0 v1 v3 v4 v5 v6 v7 (0 : Int32) I L kv0 kv1 kv7 h
set_option maxRecDepth 100000 in
def f_X8_pricesInto_b15  (Z : jZ) (Q : jI → jL → Prop) (v0 : Nat) (v1 : Nat) (v2 : Int32) (v3 : Int32) (v4 : Int32) (v5 : Int32) (v6 : Int32) (s0 : Nat) (I : jI) (L : jL) : Prop := (f_X8_has v0 v3 Z I L (fun r45 I41 L42 => ((¬ r45 = 0 → ((¬ v2 = 0 → f_X8_pricesInto_b51  Z Q v0 v1 v3 v4 v5 v6 s0 I41 L42) ∧ (v2 = 0 → (f_X3_isTold s0 Z I41 L42 (fun r54 I50 L51 => ((¬ r54 = 0 → f_X8_pricesInto_b51  Z Q v0 v1 v3 v4 v5 v6 s0 I50 L51) ∧ (r54 = 0 → (∀ b56 : Nat, jr Z v0 3 = some b56 → (vp_in v3 24 ∧ ((¬ (I50 b56 v3.toNatClampNeg) = 0 → f_X8_pricesInto_b51  Z Q v0 v1 v3 v4 v5 v6 s0 I50 L51) ∧ ((I50 b56 v3.toNatClampNeg) = 0 → f_X8_pricesInto_b52  Z Q v0 v1 v3 v4 v5 v6 s0 (1 : Int32) I50 L51))))))))))) ∧ (r45 = 0 → Q I41 L42))))
set_option maxHeartbeats 4000000 in
set_option maxRecDepth 100000 in
theorem m_X8_pricesInto_b15 {G : jG} {Z : jZ} {Q : jI → jL → Prop} (E : jE G cX8_pricesInto RX8 w_X8_pricesInto 11 none { frames := 2, cells := 0, slots := 0, locals := 48 } (rtV Z Q)) (hZ : SH Z)  (v0 : Nat) (v1 : Nat) (v2 : Int32) (v3 : Int32) (v4 : Int32) (v5 : Int32) (v6 : Int32) (s0 : Nat) (I : jI) (L : jL) (kv0 : jk Z v0 8) (kv1 : jk Z v1 14) (ks0 : jk Z s0 3) (h : f_X8_pricesInto_b15  Z Q v0 v1 v2 v3 v4 v5 v6 s0 I L) : jJ G 11 15 [(0, .ref v0), (1, .ref v1), (2, .int v2), (3, .int v3), (4, .int v4), (5, .int v5), (6, .int v6)] [.ref s0] Z I L 0 0 := by
  refine j_astore E 7 [(7, .ref s0), (0, .ref v0), (1, .ref v1), (2, .int v2), (3, .int v3), (4, .int v4), (5, .int v5), (6, .int v6)] dX8_pricesInto_15 (by decide) rfl ?_
  refine j_aload_n E dX8_pricesInto_17 1 rfl ?_
  refine j_iload_n E dX8_pricesInto_18 4 rfl ?_
  refine j_callV E [.int v3] [] (c_X8_has (gL G) (gD G) (gY G) v0 v3 Z I L _ hZ kv0 h) (gwV W_255 W_256 W_257 W_254 W_253) rfl ⟨rfl, fy_X8_has⟩ ⟨by decide, by decide⟩ (c := 8) rfl (by decide) kv0 rfl rfl (Nat.le_of_ble_eq_true rfl) ⟨Nat.zero_le _, Nat.zero_le _⟩ dX8_pricesInto_19 (fun v39 Z40 I41 L42 q43 => ?_)
  obtain ⟨rfl, r45, rfl, zr45, h⟩ := q43
  show jJ G 11 22 [(7, .ref s0), (0, .ref v0), (1, .ref v1), (2, .int v2), (3, .int v3), (4, .int v4), (5, .int v5), (6, .int v6)] [.int r45] Z I41 L42 0 0
  refine j_if_ne E 26 dX8_pricesInto_22 (by decide) (fun c46 => ?_) (fun c46 => ?_)
  · have h := h.1 c46
    refine j_iload_n E dX8_pricesInto_26 3 rfl ?_
    refine j_if_ne E 51 dX8_pricesInto_27 (by decide) (fun c47 => ?_) (fun c47 => ?_)
    · have h := h.1 c47
      refine j_sub [1, 2, 4, 5, 6, 7, 0] rfl ?_
      exact m_X8_pricesInto_b51 E hZ  v0 v1 v3 v4 v5 v6 s0 I41 L42 kv0 kv1 ks0 h
    · have h := h.2 c47
      refine j_aload E dX8_pricesInto_30 0 rfl ?_
      refine j_callV E [] [] (c_X3_isTold (gL G) (gD G) (gY G) s0 Z I41 L42 _ hZ ks0 h) (gwV W_271 W_181 W_182 W_179 W_178) rfl ⟨rfl, fy_X3_isTold⟩ ⟨by decide, by decide⟩ (c := 3) rfl (by decide) ks0 rfl rfl (Nat.le_of_ble_eq_true rfl) ⟨Nat.zero_le _, Nat.zero_le _⟩ dX8_pricesInto_32 (fun v48 Z49 I50 L51 q52 => ?_)
      obtain ⟨rfl, r54, rfl, zr54, h⟩ := q52
      show jJ G 11 35 [(7, .ref s0), (0, .ref v0), (1, .ref v1), (2, .int v2), (3, .int v3), (4, .int v4), (5, .int v5), (6, .int v6)] [.int r54] Z I50 L51 0 0
      refine j_if_ne E 51 dX8_pricesInto_35 (by decide) (fun c55 => ?_) (fun c55 => ?_)
      · have h := h.1 c55
        refine j_sub [1, 2, 4, 5, 6, 7, 0] rfl ?_
        exact m_X8_pricesInto_b51 E hZ  v0 v1 v3 v4 v5 v6 s0 I50 L51 kv0 kv1 ks0 h
      · have h := h.2 c55
        refine j_aload_n E dX8_pricesInto_38 1 rfl ?_
        obtain ⟨b56, eb56, kb56, lb56⟩ := sh_f hZ kv0 (j := 3) (k := 14) (m := 24) rfl
        have h := h b56 eb56
        refine j_getr E 8 3 rfl rfl (by decide) (by decide) (iw iT_8) rfl rfl (tw W_261) kv0 eb56 dX8_pricesInto_39 ?_
        refine j_iload_n E dX8_pricesInto_42 4 rfl ?_
        obtain ⟨o57, h⟩ := h
        refine j_iald E kb56 (by rw [lb56]; exact o57) dX8_pricesInto_43 ?_
        refine j_if_ne E 51 dX8_pricesInto_44 (by decide) (fun c58 => ?_) (fun c58 => ?_)
        · have h := h.1 c58
          refine j_sub [1, 2, 4, 5, 6, 7, 0] rfl ?_
          exact m_X8_pricesInto_b51 E hZ  v0 v1 v3 v4 v5 v6 s0 I50 L51 kv0 kv1 ks0 h
        · have h := h.2 c58
          refine j_iconst E (v := 1) dX8_pricesInto_47 (by decide) ?_
          refine j_goto E 52 dX8_pricesInto_48 (by decide) ?_
          refine j_sub [1, 2, 4, 5, 6, 7, 0] rfl ?_
          exact m_X8_pricesInto_b52 E hZ  v0 v1 v3 v4 v5 v6 s0 (1 : Int32) I50 L51 kv0 kv1 ks0 h
  · have h := h.2 c46
    exact j_return E ⟨rfl, rfl, h⟩ (Nat.zero_le _) (Nat.zero_le _) dX8_pricesInto_25
set_option maxRecDepth 100000 in
def f_X8_pricesInto (v0 : Nat) (v1 : Nat) (v2 : Int32) (v3 : Int32) (v4 : Int32) (v5 : Int32) (v6 : Int32) (Z : jZ) (I : jI) (L : jL) (Q : jI → jL → Prop) : Prop := ((¬ v2 = 0 → (∀ b60 : Nat, jr Z v0 7 = some b60 → f_X8_pricesInto_b15  Z Q v0 v1 v2 v3 v4 v5 v6 b60 I L)) ∧ (v2 = 0 → (∀ b61 : Nat, jr Z v0 6 = some b61 → f_X8_pricesInto_b15  Z Q v0 v1 v2 v3 v4 v5 v6 b61 I L)))
set_option maxHeartbeats 4000000 in
set_option maxRecDepth 100000 in
theorem c_X8_pricesInto (l : Launch) (D : va_G) (cy : jC) (v0 : Nat) (v1 : Nat) (v2 : Int32) (v3 : Int32) (v4 : Int32) (v5 : Int32) (v6 : Int32) (Z : jZ) (I : jI) (L : jL) (Q : jI → jL → Prop) (hZ : SH Z) (kv0 : jk Z v0 8) (kv1 : jk Z v1 14) (h : f_X8_pricesInto v0 v1 v2 v3 v4 v5 v6 Z I L Q) : jCt l yX8_pricesInto w_X8_pricesInto { frames := 2, cells := 0, slots := 0, locals := 48 } D cy [.ref v0, .ref v1, .int v2, .int v3, .int v4, .int v5, .int v6] Z I L (rtV Z Q) := by
  refine jCt_of (cc := cX8_pricesInto) (maxL := 11) (ret := none) (by decide +kernel) rfl (Nat.le_of_ble_eq_true rfl) ?_
  intro G eD eY eL E
  subst eD; subst eY; subst eL
  have E : jE G cX8_pricesInto RX8 w_X8_pricesInto 11 none { frames := 2, cells := 0, slots := 0, locals := 48 } (rtV Z Q) := E
  show jJ G 11 0 [(0, .ref v0), (1, .ref v1), (2, .int v2), (3, .int v3), (4, .int v4), (5, .int v5), (6, .int v6)] [] Z I L 0 0
  refine j_iload_n E dX8_pricesInto_0 2 rfl ?_
  refine j_if_ne E 11 dX8_pricesInto_1 (by decide) (fun c59 => ?_) (fun c59 => ?_)
  · have h := h.1 c59
    refine j_aload_n E dX8_pricesInto_11 0 rfl ?_
    obtain ⟨b60, eb60, kb60⟩ := sh_o hZ kv0 (j := 7) (k := 3) rfl
    have h := h b60 eb60
    refine j_getr E 8 7 rfl rfl (by decide) (by decide) (iw iT_8) rfl rfl (tw W_280) kv0 eb60 dX8_pricesInto_12 ?_
    refine j_sub [0, 1, 2, 3, 4, 5, 6] rfl ?_
    exact m_X8_pricesInto_b15 E hZ  v0 v1 v2 v3 v4 v5 v6 b60 I L kv0 kv1 kb60 h
  · have h := h.2 c59
    refine j_aload_n E dX8_pricesInto_4 0 rfl ?_
    obtain ⟨b61, eb61, kb61⟩ := sh_o hZ kv0 (j := 6) (k := 3) rfl
    have h := h b61 eb61
    refine j_getr E 8 6 rfl rfl (by decide) (by decide) (iw iT_8) rfl rfl (tw W_281) kv0 eb61 dX8_pricesInto_5 ?_
    refine j_goto E 15 dX8_pricesInto_8 (by decide) ?_
    refine j_sub [0, 1, 2, 3, 4, 5, 6] rfl ?_
    exact m_X8_pricesInto_b15 E hZ  v0 v1 v2 v3 v4 v5 v6 b61 I L kv0 kv1 kb61 h
set_option maxRecDepth 100000 in
def f_X11_isAsked (v0 : Int32) (Z : jZ) (I : jI) (L : jL) (Q : Int32 → jI → jL → Prop) : Prop := ((v0 < 0 → Q (0 : Int32) I L) ∧ (¬ (v0 < 0) → (((20 : Int32) < v0 → Q (0 : Int32) I L) ∧ (¬ ((20 : Int32) < v0) → Q (1 : Int32) I L))))
set_option maxHeartbeats 4000000 in
set_option maxRecDepth 100000 in
theorem c_X11_isAsked (l : Launch) (D : va_G) (cy : jC) (v0 : Int32) (Z : jZ) (I : jI) (L : jL) (Q : Int32 → jI → jL → Prop) (hZ : SH Z)  (h : f_X11_isAsked v0 Z I L Q) : jCt l yX11_isAsked w_X11_isAsked { frames := 0, cells := 0, slots := 0, locals := 0 } D cy [.int v0] Z I L (rtZ Z Q) := by
  refine jCt_of (cc := cX11_isAsked) (maxL := 1) (ret := (some .boolean)) (by decide +kernel) rfl (Nat.le_of_ble_eq_true rfl) ?_
  intro G eD eY eL E
  subst eD; subst eY; subst eL
  have E : jE G cX11_isAsked RX11 w_X11_isAsked 1 (some .boolean) { frames := 0, cells := 0, slots := 0, locals := 0 } (rtZ Z Q) := E
  show jJ G 1 0 [(0, .int v0)] [] Z I L 0 0
  refine j_iload_n E dX11_isAsked_0 0 rfl ?_
  refine j_if_lt E 14 dX11_isAsked_1 (by decide) (fun c1 => ?_) (fun c1 => ?_)
  · have h := h.1 c1
    refine j_iconst E (v := 0) dX11_isAsked_14 (by decide) ?_
    exact j_zreturn E (Or.inl rfl) ⟨rfl, _, rfl, (Or.inl rfl), h⟩ (Nat.zero_le _) (Nat.zero_le _) dX11_isAsked_15
  · have h := h.2 c1
    refine j_iload_n E dX11_isAsked_4 0 rfl ?_
    refine j_bipush E (v := 20) dX11_isAsked_5 (by decide) ?_
    refine j_icmp_gt E 14 dX11_isAsked_7 (by decide) (fun c2 => ?_) (fun c2 => ?_)
    · have h := h.1 c2
      refine j_iconst E (v := 0) dX11_isAsked_14 (by decide) ?_
      exact j_zreturn E (Or.inl rfl) ⟨rfl, _, rfl, (Or.inl rfl), h⟩ (Nat.zero_le _) (Nat.zero_le _) dX11_isAsked_15
    · have h := h.2 c2
      refine j_iconst E (v := 1) dX11_isAsked_10 (by decide) ?_
      refine j_goto E 15 dX11_isAsked_11 (by decide) ?_
      exact j_zreturn E (Or.inr rfl) ⟨rfl, _, rfl, (Or.inr rfl), h⟩ (Nat.zero_le _) (Nat.zero_le _) dX11_isAsked_15
