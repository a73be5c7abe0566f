set_option maxRecDepth 100000 in
def f_J7_fill_53178_L5  (Z : jZ) (Q : jI → jL → Prop) : Nat → Nat → Int32 → Int32 → Int32 → jI → jL → Prop
  | 0 => fun _ _ _ _ _ _ => False
  | n + 1 => fun v0 v1 v2 v3 I L => ((v3 ≤ v2 → Q I L) ∧ (¬ (v3 ≤ v2) → (vp_in v2 (jlen Z v0) ∧ (∀ I3 : jI, I3 = jpI I v0 v2.toNatClampNeg v1 → (∀ x4 : Int32, x4 = v2 + 1 → (f_J7_fill_53178_L5 Z Q n) v0 v1 x4 v3 I3 L)))))
set_option maxHeartbeats 4000000 in
set_option maxRecDepth 100000 in
theorem m_J7_fill_53178_L5 {G : jG} {Z : jZ} {Q : jI → jL → Prop} (E : jE G cJ7_fill_53178 RJ7 w_J7_fill_53178 4 none { frames := 0, cells := 0, slots := 0, locals := 0 } (rtV Z Q)) (hZ : SH Z)  : ∀ (n : Nat) (v0 : Nat) (v1 : Int32) (v2 : Int32) (v3 : Int32) (I : jI) (L : jL), jk Z v0 14 → f_J7_fill_53178_L5  Z Q n v0 v1 v2 v3 I L → jJ G 4 5 [(0, .ref v0), (1, .int v1), (2, .int v2), (3, .int v3)] [] Z I L 0 0 := by
  intro n
  induction n with
  | zero => intro v0 v1 v2 v3 I L _ h; exact h.elim
  | succ n ih =>
    intro v0 v1 v2 v3 I L kv0 h
    have h : ((v3 ≤ v2 → Q I L) ∧ (¬ (v3 ≤ v2) → (vp_in v2 (jlen Z v0) ∧ (∀ I3 : jI, I3 = jpI I v0 v2.toNatClampNeg v1 → (∀ x4 : Int32, x4 = v2 + 1 → (f_J7_fill_53178_L5 Z Q n) v0 v1 x4 v3 I3 L))))) := h
    obtain ⟨K5, eK5⟩ : ∃ K : Nat → Int32 → Int32 → Int32 → jI → jL → Prop, K = f_J7_fill_53178_L5  Z Q n := ⟨_, rfl⟩
    have hK5 := ih
    clear eK5 K5
    generalize f_J7_fill_53178_L5  Z Q n = K5 at hK5 h
    refine j_iload_n E dJ7_fill_53178_5 2 rfl ?_
    refine j_iload_n E dJ7_fill_53178_6 3 rfl ?_
    refine j_icmp_ge E 20 dJ7_fill_53178_7 (by decide) (fun c1 => ?_) (fun c1 => ?_)
    · have h := h.1 c1
      exact j_return E ⟨rfl, rfl, h⟩ (Nat.zero_le _) (Nat.zero_le _) dJ7_fill_53178_20
    · have h := h.2 c1
      refine j_aload_n E dJ7_fill_53178_10 0 rfl ?_
      refine j_iload_n E dJ7_fill_53178_11 2 rfl ?_
      refine j_iload_n E dJ7_fill_53178_12 1 rfl ?_
      obtain ⟨o2, h⟩ := h
      refine j_iast E kv0 o2 dJ7_fill_53178_13 ?_
      refine j_nmI (fun I3 eI3 => ?_)
      have h := h I3 eI3
      obtain ⟨x4, ex4⟩ : ∃ y : Int32, y = v2 + 1 := ⟨_, rfl⟩
      have h := h x4 ex4
      refine j_iinc E x4 [(2, .int x4), (0, .ref v0), (1, .int v1), (3, .int v3)] dJ7_fill_53178_14 2 rfl (by rw [ex4]; rfl) (by decide) rfl ?_
      refine j_goto E 5 dJ7_fill_53178_17 (by decide) ?_
      refine j_sub [1, 2, 0, 3] rfl ?_
      exact hK5 v0 v1 x4 v3 I3 L kv0 h
set_option maxRecDepth 100000 in
def f_J7_fill_53178 (v0 : Nat) (v1 : Int32) (Z : jZ) (I : jI) (L : jL) (Q : jI → jL → Prop) : Prop := (∀ x5 : Int32, x5 = (nI (jlen Z v0)) → (∃ m5 : Nat, f_J7_fill_53178_L5  Z Q m5 v0 v1 (0 : Int32) x5 I L))
set_option maxHeartbeats 4000000 in
set_option maxRecDepth 100000 in
theorem c_J7_fill_53178 (l : Launch) (D : va_G) (cy : jC) (v0 : Nat) (v1 : Int32) (Z : jZ) (I : jI) (L : jL) (Q : jI → jL → Prop) (hZ : SH Z) (kv0 : jk Z v0 14) (h : f_J7_fill_53178 v0 v1 Z I L Q) : jCt l yJ7_fill_53178 w_J7_fill_53178 { frames := 0, cells := 0, slots := 0, locals := 0 } D cy [.ref v0, .int v1] Z I L (rtV Z Q) := by
  refine jCt_of (cc := cJ7_fill_53178) (maxL := 4) (ret := none) (by decide +kernel) rfl (Nat.le_of_ble_eq_true rfl) ?_
  intro G eD eY eL E
  subst eD; subst eY; subst eL
  have E : jE G cJ7_fill_53178 RJ7 w_J7_fill_53178 4 none { frames := 0, cells := 0, slots := 0, locals := 0 } (rtV Z Q) := E
  show jJ G 4 0 [(0, .ref v0), (1, .int v1)] [] Z I L 0 0
  refine j_iconst E (v := 0) dJ7_fill_53178_0 (by decide) ?_
  refine j_istore_n E 2 [(2, .int (0 : Int32)), (0, .ref v0), (1, .int v1)] dJ7_fill_53178_1 rfl (by decide) rfl ?_
  refine j_aload_n E dJ7_fill_53178_2 1 rfl ?_
  refine j_alen14 E kv0 rfl dJ7_fill_53178_3 ?_
  refine j_topi (fun x5 ex5 => ?_)
  have h := h x5 ex5
  refine j_istore_n E 3 [(3, .int x5), (2, .int (0 : Int32)), (0, .ref v0), (1, .int v1)] dJ7_fill_53178_4 rfl (by decide) rfl ?_
  obtain ⟨n6, h⟩ := h
  refine j_sub [2, 3, 1, 0] rfl ?_
  exact m_J7_fill_53178_L5 E hZ  n6 v0 v1 (0 : Int32) x5 I L kv0 h
set_option maxRecDepth 100000 in
def f_X7_start_b27  (Z : jZ) (Q : jI → jL → Prop) (v0 : Nat) (I : jI) (L : jL) : Prop := (∀ I1 : jI, I1 = jpI I v0 8 (0 : Int32) → (∀ I2 : jI, I2 = jpI I1 v0 9 (0 : Int32) → Q I2 L))
set_option maxHeartbeats 4000000 in
set_option maxRecDepth 100000 in
theorem m_X7_start_b27 {G : jG} {Z : jZ} {Q : jI → jL → Prop} (E : jE G cX7_start RX7 w_X7_start 2 none { frames := 0, cells := 0, slots := 0, locals := 0 } (rtV Z Q)) (hZ : SH Z)  (v0 : Nat) (I : jI) (L : jL) (kv0 : jk Z v0 7) (h : f_X7_start_b27  Z Q v0 I L) : jJ G 2 27 [(0, .ref v0)] [] Z I L 0 0 := by
  refine j_aload_n E dX7_start_27 0 rfl ?_
  refine j_iconst E (v := 0) dX7_start_28 (by decide) ?_
  refine j_puti E 7 8 rfl rfl (by decide) (by decide) (iw iT_7) tyX7_ok nmX7 rfl rfl (tw W_0) rfl rfl rfl kv0 dX7_start_29 ?_
  refine j_nmI (fun I1 eI1 => ?_)
  have h := h I1 eI1
  refine j_aload_n E dX7_start_32 0 rfl ?_
  refine j_iconst E (v := 0) dX7_start_33 (by decide) ?_
  refine j_puti E 7 9 rfl rfl (by decide) (by decide) (iw iT_7) tyX7_ok nmX7 rfl rfl (tw W_1) rfl rfl rfl kv0 dX7_start_34 ?_
  refine j_nmI (fun I2 eI2 => ?_)
  have h := h I2 eI2
  exact j_return E ⟨rfl, rfl, h⟩ (Nat.zero_le _) (Nat.zero_le _) dX7_start_37
set_option maxRecDepth 100000 in
def f_X7_start (v0 : Nat) (v1 : Int32) (Z : jZ) (I : jI) (L : jL) (Q : jI → jL → Prop) : Prop := ((v1 < 0 → f_X7_start_b27  Z Q v0 I L) ∧ (¬ (v1 < 0) → (((25 : Int32) ≤ v1 → f_X7_start_b27  Z Q v0 I L) ∧ (¬ ((25 : Int32) ≤ v1) → (∀ b5 : Nat, jr Z v0 1 = some b5 → (vp_in v1 25 ∧ (∀ I7 : jI, I7 = jpI I b5 v1.toNatClampNeg (I v0 3) → (∀ b8 : Nat, jr Z v0 2 = some b8 → (vp_in v1 25 ∧ (∀ I10 : jI, I10 = jpI I7 b8 v1.toNatClampNeg (0 : Int32) → f_X7_start_b27  Z Q v0 I10 L))))))))))
set_option maxHeartbeats 4000000 in
set_option maxRecDepth 100000 in
theorem c_X7_start (l : Launch) (D : va_G) (cy : jC) (v0 : Nat) (v1 : Int32) (Z : jZ) (I : jI) (L : jL) (Q : jI → jL → Prop) (hZ : SH Z) (kv0 : jk Z v0 7) (h : f_X7_start v0 v1 Z I L Q) : jCt l yX7_start w_X7_start { frames := 0, cells := 0, slots := 0, locals := 0 } D cy [.ref v0, .int v1] Z I L (rtV Z Q) := by
  refine jCt_of (cc := cX7_start) (maxL := 2) (ret := none) (by decide +kernel) rfl (Nat.le_of_ble_eq_true rfl) ?_
  intro G eD eY eL E
  subst eD; subst eY; subst eL
  have E : jE G cX7_start RX7 w_X7_start 2 none { frames := 0, cells := 0, slots := 0, locals := 0 } (rtV Z Q) := E
  show jJ G 2 0 [(0, .ref v0), (1, .int v1)] [] Z I L 0 0
  refine j_iload_n E dX7_start_0 1 rfl ?_
  refine j_if_lt E 27 dX7_start_1 (by decide) (fun c3 => ?_) (fun c3 => ?_)
  · have h := h.1 c3
    refine j_sub [0] rfl ?_
    exact m_X7_start_b27 E hZ  v0 I L kv0 h
  · have h := h.2 c3
    refine j_iload_n E dX7_start_4 1 rfl ?_
    refine j_bipush E (v := 25) dX7_start_5 (by decide) ?_
    refine j_icmp_ge E 27 dX7_start_7 (by decide) (fun c4 => ?_) (fun c4 => ?_)
    · have h := h.1 c4
      refine j_sub [0] rfl ?_
      exact m_X7_start_b27 E hZ  v0 I L kv0 h
    · have h := h.2 c4
      refine j_aload_n E dX7_start_10 0 rfl ?_
      obtain ⟨b5, eb5, kb5, lb5⟩ := sh_f hZ kv0 (j := 1) (k := 14) (m := 25) rfl
      have h := h b5 eb5
      refine j_getr E 7 1 rfl rfl (by decide) (by decide) (iw iT_7) rfl rfl (tw W_2) kv0 eb5 dX7_start_11 ?_
      refine j_iload_n E dX7_start_14 1 rfl ?_
      refine j_aload_n E dX7_start_15 0 rfl ?_
      refine j_geti E 7 3 rfl rfl (by decide) (by decide) (iw iT_7) rfl rfl (tw W_3) kv0 dX7_start_16 ?_
      obtain ⟨o6, h⟩ := h
      refine j_iast E kb5 (by rw [lb5]; exact o6) dX7_start_19 ?_
      refine j_nmI (fun I7 eI7 => ?_)
      have h := h I7 eI7
      refine j_aload_n E dX7_start_20 0 rfl ?_
      obtain ⟨b8, eb8, kb8, lb8⟩ := sh_f hZ kv0 (j := 2) (k := 14) (m := 25) rfl
      have h := h b8 eb8
      refine j_getr E 7 2 rfl rfl (by decide) (by decide) (iw iT_7) rfl rfl (tw W_4) kv0 eb8 dX7_start_21 ?_
      refine j_iload_n E dX7_start_24 1 rfl ?_
      refine j_iconst E (v := 0) dX7_start_25 (by decide) ?_
      obtain ⟨o9, h⟩ := h
      refine j_iast E kb8 (by rw [lb8]; exact o9) dX7_start_26 ?_
      refine j_nmI (fun I10 eI10 => ?_)
      have h := h I10 eI10
      refine j_sub [0] rfl ?_
      exact m_X7_start_b27 E hZ  v0 I10 L kv0 h
set_option maxRecDepth 100000 in
def f_J7_copyOf_c38d5 (B : Nat × Nat) (v0 : Nat) (v1 : Int32) (Z : jZ) (I : jI) (L : jL) (Q : Option Nat → jZ → jI → jL → Prop) : Prop := ((¬ v1 = (nI (jlen Z v0)) → ((¬ v1 < 0 ∧ v1.toNatClampNeg ≤ 67108864 ∧ jcz Z + 1 ≤ B.1 ∧ jsz Z + v1.toNatClampNeg ≤ B.2) ∧ (∀ q3 : Nat, q3 ∉ Z.1 → ∀ Z4 : jZ, Z4 = jnw Z q3 15 v1.toNatClampNeg → ∀ I5 : jI, I5 = jz0 I q3 → ∀ L6 : jL, L6 = jzL L q3 → ((¬ (0 : Int32) < 0 ∧ ¬ (0 : Int32) < 0 ∧ ¬ (if v1 < (nI (jlen Z4 v0)) then v1 else (nI (jlen Z4 v0))) < 0 ∧ (0 : Int32).toNatClampNeg + (if v1 < (nI (jlen Z4 v0)) then v1 else (nI (jlen Z4 v0))).toNatClampNeg ≤ (jlen Z4 v0) ∧ (0 : Int32).toNatClampNeg + (if v1 < (nI (jlen Z4 v0)) then v1 else (nI (jlen Z4 v0))).toNatClampNeg ≤ (jlen Z4 q3)) ∧ (∀ L9 : jL, L9 = va_up L6 q3 (va_cpy (L6 v0) (L6 q3) (0 : Int32).toNatClampNeg (0 : Int32).toNatClampNeg (if v1 < (nI (jlen Z4 v0)) then v1 else (nI (jlen Z4 v0))).toNatClampNeg) → Q (some q3) Z4 I5 L9))))) ∧ (v1 = (nI (jlen Z v0)) → False))
set_option maxHeartbeats 4000000 in
set_option maxRecDepth 100000 in
theorem c_J7_copyOf_c38d5 (l : Launch) (D : va_G) (cy : jC) (B : Nat × Nat) (v0 : Nat) (v1 : Int32) (Z : jZ) (I : jI) (L : jL) (Q : Option Nat → jZ → jI → jL → Prop) (hZ : SH Z) (hb : jin B Z) (kv0 : jk Z v0 15) (h : f_J7_copyOf_c38d5 B v0 v1 Z I L Q) : jCtU l yJ7_copyOf_c38d5 w_J7_copyOf_c38d5 B 1 48 D cy [.ref v0, .int v1] Z I L (urtR 15 B Z Q) := by
  refine jCtU_of (cc := cJ7_copyOf_c38d5) (maxL := 3) (ret := (some (.array .long))) (by decide +kernel) rfl (Nat.le_of_ble_eq_true rfl) ?_
  intro G eD eY eL E EU
  subst eD; subst eY; subst eL
  have E : jE G cJ7_copyOf_c38d5 RJ7 w_J7_copyOf_c38d5 3 (some (.array .long)) (jrm B 1 48 Z) jRF := E
  have hx : jext Z Z := jext_rfl
  have hc : jle Z Z := jle_rfl
  show jJ G 3 0 [(0, .ref v0), (1, .int v1)] [] Z I L (jcz Z - jcz Z) (jsz Z - jsz Z)
  refine j_iload_n E dJ7_copyOf_c38d5_0 1 rfl ?_
  refine j_aload_n E dJ7_copyOf_c38d5_1 0 rfl ?_
  refine j_alen15 E kv0 rfl dJ7_copyOf_c38d5_2 ?_
  refine j_icmp_ne E 14 dJ7_copyOf_c38d5_3 (by decide) (fun c1 => ?_) (fun c1 => ?_)
  · have h := h.1 c1
    refine j_iload_n E dJ7_copyOf_c38d5_14 1 rfl ?_
    obtain ⟨o2, h⟩ := h
    refine ju_newaJ E hc o2.1 o2.2.1 (tw W_5) o2.2.2.1 o2.2.2.2 dJ7_copyOf_c38d5_15 (fun q3 nq3 => ?_)
    refine j_nmZ (fun Z4 eZ4 => ?_)
    rw [← eZ4]
    refine j_nmI (fun I5 eI5 => ?_)
    refine j_nmL (fun L6 eL6 => ?_)
    have h := h q3 nq3 Z4 eZ4 I5 eI5 L6 eL6
    have yZ4 : jext Z Z4 := by rw [eZ4]; exact jext_nw nq3
    have kq3 : jk Z4 q3 15 := by rw [eZ4]; exact jk_nw
    have hZ : SH Z4 := by rw [eZ4]; exact SH_nwa hZ nq3 (by decide) (by decide)
    have hc : jle Z Z4 := by rw [eZ4]; exact jle_trans hc (jle_nw nq3)
    have hb : jin B Z4 := by rw [eZ4]; exact jin_nw nq3 o2.2.2.1 o2.2.2.2
    have k7 := (yZ4 _ _ kv0).1
    have hx : jext Z Z4 := jext_trans hx yZ4
    refine j_astore_n E 2 [(2, .ref q3), (0, .ref v0), (1, .int v1)] dJ7_copyOf_c38d5_17 rfl (by decide) rfl ?_
    refine j_aload_n E dJ7_copyOf_c38d5_18 1 rfl ?_
    refine j_iconst E (v := 0) dJ7_copyOf_c38d5_19 (by decide) ?_
    refine j_aload_n E dJ7_copyOf_c38d5_20 0 rfl ?_
    refine j_iconst E (v := 0) dJ7_copyOf_c38d5_21 (by decide) ?_
    refine j_aload_n E dJ7_copyOf_c38d5_22 1 rfl ?_
    refine j_alen15 E k7 rfl dJ7_copyOf_c38d5_23 ?_
    refine j_iload_n E dJ7_copyOf_c38d5_24 2 rfl ?_
    refine j_min E (tw W_6) (tw W_7) (tw W_8) (tw W_9) (Nat.le_of_ble_eq_true rfl) (Nat.le_of_ble_eq_true rfl) (ju_k hb) (ju_n hb) dJ7_copyOf_c38d5_25 ?_
    obtain ⟨o8, h⟩ := h
    refine j_copyl E (tw W_10) (tw W_11) (tw W_12) (tw W_13) k7 kq3 o8.1 o8.2.1 o8.2.2.1 o8.2.2.2.1 o8.2.2.2.2 (Nat.le_of_ble_eq_true rfl) (Nat.le_of_ble_eq_true rfl) dJ7_copyOf_c38d5_28 ?_
    refine j_nmL (fun L9 eL9 => ?_)
    have h := h L9 eL9
    refine j_aload_n E dJ7_copyOf_c38d5_31 0 rfl ?_
    exact ju_areturn E EU hc hb (Or.inr ⟨_, rfl⟩) (some q3) rfl ⟨hx, hZ, hb, _, rfl, (fun _ q => by cases q; exact kq3), h⟩ dJ7_copyOf_c38d5_32
  · have h := h.2 c1
    refine j_aload_n E dJ7_copyOf_c38d5_6 0 rfl ?_
    exact h.elim
set_option maxRecDepth 100000 in
def f_X7_push_b38 (B : Nat × Nat)  (Q : jZ → jI → jL → Prop) (v0 : Nat) (v1 : Int32) (v2 : Int64) (Z : jZ) (I : jI) (L : jL) : Prop := (∀ b1 : Nat, jr Z v0 0 = some b1 → (((nI (jlen Z b1)) ≤ (I v0 3) → Q Z I L) ∧ (¬ ((nI (jlen Z b1)) ≤ (I v0 3)) → ((v1 < 0 → Q Z I L) ∧ (¬ (v1 < 0) → (((25 : Int32) ≤ v1 → Q Z I L) ∧ (¬ ((25 : Int32) ≤ v1) → (∀ b5 : Nat, jr Z v0 0 = some b5 → (vp_in (I v0 3) (jlen Z b5) ∧ (∀ L7 : jL, L7 = jpL L b5 (I v0 3).toNatClampNeg v2 → (∀ I8 : jI, I8 = jpI I v0 3 ((I v0 3) + (1 : Int32)) → (∀ b9 : Nat, jr Z v0 2 = some b9 → (vp_in v1 25 ∧ (vp_in v1 25 ∧ (∀ I12 : jI, I12 = jpI I8 b9 v1.toNatClampNeg ((I8 b9 v1.toNatClampNeg) + (1 : Int32)) → Q Z I12 L7)))))))))))))))
set_option maxHeartbeats 4000000 in
set_option maxRecDepth 100000 in
theorem m_X7_push_b38 {G : jG} {B : Nat × Nat} {Z0 : jZ} {Q : jZ → jI → jL → Prop} (E : jE G cX7_push RX7 w_X7_push 4 none (jrm B 2 70 Z0) jRF) (EU : jEU G B Z0 (urtV B Z0 Q))  (v0 : Nat) (v1 : Int32) (v2 : Int64) (Z : jZ) (I : jI) (L : jL) (hZ : SH Z) (hx : jext Z0 Z) (hc : jle Z0 Z) (hb : jin B Z) (kv0 : jk Z v0 7) (h : f_X7_push_b38 B  Q v0 v1 v2 Z I L) : jJ G 4 38 [(0, .ref v0), (1, .int v1), (2, .long v2)] [] Z I L (jcz Z - jcz Z0) (jsz Z - jsz Z0) := by
  refine j_aload_n E dX7_push_38 0 rfl ?_
  refine j_geti E 7 3 rfl rfl (by decide) (by decide) (iw iT_7) rfl rfl (tw W_3) kv0 dX7_push_39 ?_
  refine j_aload_n E dX7_push_42 0 rfl ?_
  obtain ⟨b1, eb1, kb1⟩ := sh_o hZ kv0 (j := 0) (k := 15) rfl
  have h := h b1 eb1
  refine j_getr E 7 0 rfl rfl (by decide) (by decide) (iw iT_7) rfl rfl (tw W_14) kv0 eb1 dX7_push_43 ?_
  refine j_alen15 E kb1 rfl dX7_push_46 ?_
  refine j_icmp_ge E 90 dX7_push_47 (by decide) (fun c2 => ?_) (fun c2 => ?_)
  · have h := h.1 c2
    exact ju_return E EU hc hb ⟨hx, hZ, hb, rfl, h⟩ dX7_push_90
  · have h := h.2 c2
    refine j_iload_n E dX7_push_50 1 rfl ?_
    refine j_if_lt E 90 dX7_push_51 (by decide) (fun c3 => ?_) (fun c3 => ?_)
    · have h := h.1 c3
      exact ju_return E EU hc hb ⟨hx, hZ, hb, rfl, h⟩ dX7_push_90
    · have h := h.2 c3
      refine j_iload_n E dX7_push_54 1 rfl ?_
      refine j_bipush E (v := 25) dX7_push_55 (by decide) ?_
      refine j_icmp_ge E 90 dX7_push_57 (by decide) (fun c4 => ?_) (fun c4 => ?_)
      · have h := h.1 c4
        exact ju_return E EU hc hb ⟨hx, hZ, hb, rfl, h⟩ dX7_push_90
      · have h := h.2 c4
        refine j_aload_n E dX7_push_60 0 rfl ?_
        obtain ⟨b5, eb5, kb5⟩ := sh_o hZ kv0 (j := 0) (k := 15) rfl
        have h := h b5 eb5
        refine j_getr E 7 0 rfl rfl (by decide) (by decide) (iw iT_7) rfl rfl (tw W_14) kv0 eb5 dX7_push_61 ?_
        refine j_aload_n E dX7_push_64 0 rfl ?_
        refine j_geti E 7 3 rfl rfl (by decide) (by decide) (iw iT_7) rfl rfl (tw W_3) kv0 dX7_push_65 ?_
        refine j_lload_n E dX7_push_68 2 rfl ?_
        obtain ⟨o6, h⟩ := h
        refine j_last E kb5 o6 dX7_push_69 ?_
        refine j_nmL (fun L7 eL7 => ?_)
        have h := h L7 eL7
        refine j_aload_n E dX7_push_70 0 rfl ?_
        refine j_dup E dX7_push_71 rfl ?_
        refine j_geti E 7 3 rfl rfl (by decide) (by decide) (iw iT_7) rfl rfl (tw W_3) kv0 dX7_push_72 ?_
        refine j_iconst E (v := 1) dX7_push_75 (by decide) ?_
        refine j_iadd E dX7_push_76 ?_
        refine j_puti E 7 3 rfl rfl (by decide) (by decide) (iw iT_7) tyX7_ok nmX7 rfl rfl (tw W_3) rfl rfl rfl kv0 dX7_push_77 ?_
        refine j_nmI (fun I8 eI8 => ?_)
        have h := h I8 eI8
        refine j_aload_n E dX7_push_80 0 rfl ?_
        obtain ⟨b9, eb9, kb9, lb9⟩ := sh_f hZ kv0 (j := 2) (k := 14) (m := 25) rfl
        have h := h b9 eb9
        refine j_getr E 7 2 rfl rfl (by decide) (by decide) (iw iT_7) rfl rfl (tw W_4) kv0 eb9 dX7_push_81 ?_
        refine j_iload_n E dX7_push_84 1 rfl ?_
        refine j_dup2_11 E dX7_push_85 rfl rfl ?_
        obtain ⟨o10, h⟩ := h
        refine j_iald E kb9 (by rw [lb9]; exact o10) dX7_push_86 ?_
        refine j_iconst E (v := 1) dX7_push_87 (by decide) ?_
        refine j_iadd E dX7_push_88 ?_
        obtain ⟨o11, h⟩ := h
        refine j_iast E kb9 (by rw [lb9]; exact o11) dX7_push_89 ?_
        refine j_nmI (fun I12 eI12 => ?_)
        have h := h I12 eI12
        exact ju_return E EU hc hb ⟨hx, hZ, hb, rfl, h⟩ dX7_push_90
set_option maxRecDepth 100000 in
def f_X7_push (B : Nat × Nat) (v0 : Nat) (v1 : Int32) (v2 : Int64) (Z : jZ) (I : jI) (L : jL) (Q : jZ → jI → jL → Prop) : Prop := (∀ b13 : Nat, jr Z v0 0 = some b13 → ((¬ (I v0 3) = (nI (jlen Z b13)) → f_X7_push_b38 B  Q v0 v1 v2 Z I L) ∧ ((I v0 3) = (nI (jlen Z b13)) → (((1048576 : Int32) ≤ (I v0 3) → f_X7_push_b38 B  Q v0 v1 v2 Z I L) ∧ (¬ ((1048576 : Int32) ≤ (I v0 3)) → (∀ b16 : Nat, jr Z v0 0 = some b16 → (f_J7_copyOf_c38d5 B b16 ((I v0 3) * (2 : Int32)) Z I L (fun r23 Z18 I19 L20 => ((r23 = none → False) ∧ (∀ b25 : Nat, r23 = some b25 → (∀ Z27 : jZ, Z27 = jpR Z18 v0 0 (some b25) → f_X7_push_b38 B  Q v0 v1 v2 Z27 I19 L20)))))))))))
set_option maxHeartbeats 4000000 in
set_option maxRecDepth 100000 in
theorem c_X7_push (l : Launch) (D : va_G) (cy : jC) (B : Nat × Nat) (v0 : Nat) (v1 : Int32) (v2 : Int64) (Z : jZ) (I : jI) (L : jL) (Q : jZ → jI → jL → Prop) (hZ : SH Z) (hb : jin B Z) (kv0 : jk Z v0 7) (h : f_X7_push B v0 v1 v2 Z I L Q) : jCtU l yX7_push w_X7_push B 2 70 D cy [.ref v0, .int v1, .long v2] Z I L (urtV B Z Q) := by
  refine jCtU_of (cc := cX7_push) (maxL := 4) (ret := none) (by decide +kernel) rfl (Nat.le_of_ble_eq_true rfl) ?_
  intro G eD eY eL E EU
  subst eD; subst eY; subst eL
  have E : jE G cX7_push RX7 w_X7_push 4 none (jrm B 2 70 Z) jRF := E
  have hx : jext Z Z := jext_rfl
  have hc : jle Z Z := jle_rfl
  show jJ G 4 0 [(0, .ref v0), (1, .int v1), (2, .long v2)] [] Z I L (jcz Z - jcz Z) (jsz Z - jsz Z)
  refine j_aload_n E dX7_push_0 0 rfl ?_
  refine j_geti E 7 3 rfl rfl (by decide) (by decide) (iw iT_7) rfl rfl (tw W_3) kv0 dX7_push_1 ?_
  refine j_aload_n E dX7_push_4 0 rfl ?_
  obtain ⟨b13, eb13, kb13⟩ := sh_o hZ kv0 (j := 0) (k := 15) rfl
  have h := h b13 eb13
  refine j_getr E 7 0 rfl rfl (by decide) (by decide) (iw iT_7) rfl rfl (tw W_14) kv0 eb13 dX7_push_5 ?_
  refine j_alen15 E kb13 rfl dX7_push_8 ?_
  refine j_icmp_ne E 38 dX7_push_9 (by decide) (fun c14 => ?_) (fun c14 => ?_)
  · have h := h.1 c14
    refine j_sub [0, 1, 2] rfl ?_
    exact m_X7_push_b38 E EU  v0 v1 v2 Z I L hZ hx hc hb kv0 h
  · have h := h.2 c14
    refine j_aload_n E dX7_push_12 0 rfl ?_
    refine j_geti E 7 3 rfl rfl (by decide) (by decide) (iw iT_7) rfl rfl (tw W_3) kv0 dX7_push_13 ?_
    refine j_ldc E (tw W_15) dX7_push_16 ?_
    refine j_icmp_ge E 38 dX7_push_18 (by decide) (fun c15 => ?_) (fun c15 => ?_)
    · have h := h.1 c15
      refine j_sub [0, 1, 2] rfl ?_
      exact m_X7_push_b38 E EU  v0 v1 v2 Z I L hZ hx hc hb kv0 h
    · have h := h.2 c15
      refine j_aload_n E dX7_push_21 0 rfl ?_
      refine j_aload_n E dX7_push_22 0 rfl ?_
      obtain ⟨b16, eb16, kb16⟩ := sh_o hZ kv0 (j := 0) (k := 15) rfl
      have h := h b16 eb16
      refine j_getr E 7 0 rfl rfl (by decide) (by decide) (iw iT_7) rfl rfl (tw W_14) kv0 eb16 dX7_push_23 ?_
      refine j_aload_n E dX7_push_26 0 rfl ?_
      refine j_geti E 7 3 rfl rfl (by decide) (by decide) (iw iT_7) rfl rfl (tw W_3) kv0 dX7_push_27 ?_
      refine j_iconst E (v := 2) dX7_push_30 (by decide) ?_
      refine j_imul E dX7_push_31 ?_
      refine ju_callS E [.ref b16, .int ((I v0 3) * (2 : Int32))] [.ref v0] (c_J7_copyOf_c38d5 (gL G) (gD G) (gY G) B b16 ((I v0 3) * (2 : Int32)) Z I L _ hZ hb kb16 h) (gwS W_18 W_19 W_17 W_16) rfl fy_J7_copyOf_c38d5 ⟨Nat.le_of_ble_eq_true rfl, Nat.le_of_ble_eq_true rfl⟩ rfl rfl (Nat.le_of_ble_eq_true rfl) (ju_f hc hb) dX7_push_32 (fun v17 Z18 I19 L20 q21 j22 => ?_)
      refine ju_next hc j22 ?_
      have hc := jle_trans hc j22
      obtain ⟨yZ18, hZ18, hbZ18, r23, rfl, zr23, h⟩ := q21
      have hZ := hZ18
      have hx : jext Z Z18 := jext_trans hx yZ18
      have hb := hbZ18
      have k24 := (yZ18 _ _ kv0).1
      show jJ G 4 35 [(0, .ref v0), (1, .int v1), (2, .long v2)] (va_rf r23 :: [.ref v0]) Z18 I19 L20 (jcz Z18 - jcz Z) (jsz Z18 - jsz Z)
      rcases c26 : r23 with _ | b25
      · have h := h.1 c26
        refine j_rfN rfl ?_
        exact h.elim
      · have h := h.2 b25 c26
        have kb25 := zr23 b25 c26
        refine j_rfS rfl ?_
        refine j_putr E 7 0 rfl rfl (by decide) (by decide) (iw iT_7) tyX7_ok nmX7 rfl rfl (tw W_14) rfl k24 dX7_push_35 ?_
        refine j_nmZ (fun Z27 eZ27 => ?_)
        have h := h Z27 eZ27
        have yZ27 : jext Z18 Z27 := by rw [eZ27]; exact jext_putr
        have hZ : SH Z27 := by rw [eZ27]; exact SH_keys hZ k24 kb25
        have hx : jext Z Z27 := jext_trans hx yZ27
        refine j_kn (k' := jcz Z27 - jcz Z) (n' := jsz Z27 - jsz Z) (by rw [eZ27]; rfl) (by rw [eZ27]; rfl) ?_
        have hc : jle Z Z27 := by rw [eZ27]; exact hc
        have hb : jin B Z27 := by rw [eZ27]; exact hb
        have k28 := (yZ27 _ _ k24).1
        refine j_sub [0, 1, 2] rfl ?_
        exact m_X7_push_b38 E EU  v0 v1 v2 Z27 I19 L20 hZ hx hc hb k28 h
set_option maxRecDepth 100000 in
def f_X7_begin (B : Nat × Nat) (v0 : Nat) (v1 : Int32) (v2 : Int64) (Z : jZ) (I : jI) (L : jL) (Q : jZ → jI → jL → Prop) : Prop := (∀ b1 : Nat, jr Z v0 2 = some b1 → (f_J7_fill_53178 b1 (0 : Int32) Z I L (fun I4 L5 => (∀ I8 : jI, I8 = jpI I4 v0 3 (0 : Int32) → (f_X7_start v0 v1 Z I8 L5 (fun I11 L12 => (f_X7_push B v0 v1 v2 Z I11 L12 (fun Z16 I17 L18 => Q Z16 I17 L18))))))))
set_option maxHeartbeats 4000000 in
set_option maxRecDepth 100000 in
theorem c_X7_begin (l : Launch) (D : va_G) (cy : jC) (B : Nat × Nat) (v0 : Nat) (v1 : Int32) (v2 : Int64) (Z : jZ) (I : jI) (L : jL) (Q : jZ → jI → jL → Prop) (hZ : SH Z) (hb : jin B Z) (kv0 : jk Z v0 7) (h : f_X7_begin B v0 v1 v2 Z I L Q) : jCtU l yX7_begin w_X7_begin B 3 93 D cy [.ref v0, .int v1, .long v2] Z I L (urtV B Z Q) := by
  refine jCtU_of (cc := cX7_begin) (maxL := 4) (ret := none) (by decide +kernel) rfl (Nat.le_of_ble_eq_true rfl) ?_
  intro G eD eY eL E EU
  subst eD; subst eY; subst eL
  have E : jE G cX7_begin RX7 w_X7_begin 4 none (jrm B 3 93 Z) jRF := E
  have hx : jext Z Z := jext_rfl
  have hc : jle Z Z := jle_rfl
  show jJ G 4 0 [(0, .ref v0), (1, .int v1), (2, .long v2)] [] Z I L (jcz Z - jcz Z) (jsz Z - jsz Z)
  refine j_aload_n E dX7_begin_0 0 rfl ?_
  obtain ⟨b1, eb1, kb1, lb1⟩ := sh_f hZ kv0 (j := 2) (k := 14) (m := 25) rfl
  have h := h b1 eb1
  refine j_getr E 7 2 rfl rfl (by decide) (by decide) (iw iT_7) rfl rfl (tw W_4) kv0 eb1 dX7_begin_1 ?_
  refine j_iconst E (v := 0) dX7_begin_4 (by decide) ?_
  refine j_callS E [.ref b1, .int (0 : Int32)] [] (c_J7_fill_53178 (gL G) (gD G) (gY G) b1 (0 : Int32) Z I L _ hZ kb1 h) (gwS W_21 W_22 W_17 W_20) rfl fy_J7_fill_53178 ⟨Nat.le_of_ble_eq_true rfl, Nat.le_of_ble_eq_true rfl⟩ rfl rfl (Nat.le_of_ble_eq_true rfl) (ju_kn hb) dX7_begin_5 (fun v2 Z3 I4 L5 q6 => ?_)
  obtain ⟨rfl, rfl, h⟩ := q6
  show jJ G 4 8 [(0, .ref v0), (1, .int v1), (2, .long v2)] [] Z I4 L5 (jcz Z - jcz Z) (jsz Z - jsz Z)
  refine j_aload_n E dX7_begin_8 0 rfl ?_
  refine j_iconst E (v := 0) dX7_begin_9 (by decide) ?_
  refine j_puti E 7 3 rfl rfl (by decide) (by decide) (iw iT_7) tyX7_ok nmX7 rfl rfl (tw W_3) rfl rfl rfl kv0 dX7_begin_10 ?_
  refine j_nmI (fun I8 eI8 => ?_)
  have h := h I8 eI8
  refine j_aload_n E dX7_begin_13 0 rfl ?_
  refine j_iload_n E dX7_begin_14 1 rfl ?_
  refine j_callV E [.int v1] [] (c_X7_start (gL G) (gD G) (gY G) v0 v1 Z I8 L5 _ hZ kv0 h) (gwV W_25 W_26 W_27 W_24 W_23) rfl ⟨rfl, fy_X7_start⟩ ⟨Nat.le_of_ble_eq_true rfl, Nat.le_of_ble_eq_true rfl⟩ (c := 7) rfl (by decide) kv0 rfl rfl (Nat.le_of_ble_eq_true rfl) (ju_kn hb) dX7_begin_15 (fun v9 Z10 I11 L12 q13 => ?_)
  obtain ⟨rfl, rfl, h⟩ := q13
  show jJ G 4 18 [(0, .ref v0), (1, .int v1), (2, .long v2)] [] Z I11 L12 (jcz Z - jcz Z) (jsz Z - jsz Z)
  refine j_aload_n E dX7_begin_18 0 rfl ?_
  refine j_iload_n E dX7_begin_19 1 rfl ?_
  refine j_lload_n E dX7_begin_20 2 rfl ?_
  refine ju_callV E [.int v1, .long v2] [] (c_X7_push (gL G) (gD G) (gY G) B v0 v1 v2 Z I11 L12 _ hZ hb kv0 h) (gwV W_29 W_30 W_31 W_24 W_28) rfl ⟨rfl, fy_X7_push⟩ ⟨Nat.le_of_ble_eq_true rfl, Nat.le_of_ble_eq_true rfl⟩ (c := 7) rfl (by decide) kv0 rfl rfl (Nat.le_of_ble_eq_true rfl) (ju_f hc hb) dX7_begin_21 (fun v15 Z16 I17 L18 q19 j20 => ?_)
  refine ju_next hc j20 ?_
  have hc := jle_trans hc j20
  obtain ⟨yZ16, hZ16, hbZ16, rfl, h⟩ := q19
  have hZ := hZ16
  have hx : jext Z Z16 := jext_trans hx yZ16
  have hb := hbZ16
  have k21 := (yZ16 _ _ kv0).1
  show jJ G 4 24 [(0, .ref v0), (1, .int v1), (2, .long v2)] [] Z16 I17 L18 (jcz Z16 - jcz Z) (jsz Z16 - jsz Z)
  exact ju_return E EU hc hb ⟨hx, hZ, hb, rfl, h⟩ dX7_begin_24
set_option maxRecDepth 100000 in
def f_X6_moveTo (v0 : Int32) (v1 : Int32) (Z : jZ) (I : jI) (L : jL) (Q : Int32 → jI → jL → Prop) : Prop := Q (((v0 * (3 : Int32)) + v1) - (1 : Int32)) I L
set_option maxHeartbeats 4000000 in
set_option maxRecDepth 100000 in
theorem c_X6_moveTo (l : Launch) (D : va_G) (cy : jC) (v0 : Int32) (v1 : Int32) (Z : jZ) (I : jI) (L : jL) (Q : Int32 → jI → jL → Prop) (hZ : SH Z)  (h : f_X6_moveTo v0 v1 Z I L Q) : jCt l yX6_moveTo w_X6_moveTo { frames := 0, cells := 0, slots := 0, locals := 0 } D cy [.int v0, .int v1] Z I L (rtI Z Q) := by
  refine jCt_of (cc := cX6_moveTo) (maxL := 2) (ret := (some .int)) (by decide +kernel) rfl (Nat.le_of_ble_eq_true rfl) ?_
  intro G eD eY eL E
  subst eD; subst eY; subst eL
  have E : jE G cX6_moveTo RX6 w_X6_moveTo 2 (some .int) { frames := 0, cells := 0, slots := 0, locals := 0 } (rtI Z Q) := E
  show jJ G 2 0 [(0, .int v0), (1, .int v1)] [] Z I L 0 0
  refine j_iload_n E dX6_moveTo_0 0 rfl ?_
  refine j_iconst E (v := 3) dX6_moveTo_1 (by decide) ?_
  refine j_imul E dX6_moveTo_2 ?_
  refine j_iload_n E dX6_moveTo_3 1 rfl ?_
  refine j_iadd E dX6_moveTo_4 ?_
  refine j_iconst E (v := 1) dX6_moveTo_5 (by decide) ?_
  refine j_isub E dX6_moveTo_6 ?_
  exact j_ireturn E ⟨rfl, _, rfl, h⟩ (Nat.zero_le _) (Nat.zero_le _) dX6_moveTo_7
set_option maxRecDepth 100000 in
def f_X11_bitOf (v0 : Int32) (Z : jZ) (I : jI) (L : jL) (Q : Int64 → jI → jL → Prop) : Prop := Q ((1 : Int64) <<< (((23 : Int32) - v0).toInt64 &&& 63)) I L
set_option maxHeartbeats 4000000 in
set_option maxRecDepth 100000 in
theorem c_X11_bitOf (l : Launch) (D : va_G) (cy : jC) (v0 : Int32) (Z : jZ) (I : jI) (L : jL) (Q : Int64 → jI → jL → Prop) (hZ : SH Z)  (h : f_X11_bitOf v0 Z I L Q) : jCt l yX11_bitOf w_X11_bitOf { frames := 0, cells := 0, slots := 0, locals := 0 } D cy [.int v0] Z I L (rtL Z Q) := by
  refine jCt_of (cc := cX11_bitOf) (maxL := 1) (ret := (some .long)) (by decide +kernel) rfl (Nat.le_of_ble_eq_true rfl) ?_
  intro G eD eY eL E
  subst eD; subst eY; subst eL
  have E : jE G cX11_bitOf RX11 w_X11_bitOf 1 (some .long) { frames := 0, cells := 0, slots := 0, locals := 0 } (rtL Z Q) := E
  show jJ G 1 0 [(0, .int v0)] [] Z I L 0 0
  refine j_lconst E (v := 1) dX11_bitOf_0 (by decide) ?_
  refine j_bipush E (v := 23) dX11_bitOf_1 (by decide) ?_
  refine j_iload_n E dX11_bitOf_3 0 rfl ?_
  refine j_isub E dX11_bitOf_4 ?_
  refine j_lshl E dX11_bitOf_5 ?_
  exact j_lreturn E ⟨rfl, _, rfl, h⟩ (Nat.zero_le _) (Nat.zero_le _) dX11_bitOf_6
set_option maxRecDepth 100000 in
def f_X6_keyOf (v0 : Nat) (v1 : Int32) (v2 : Int32) (Z : jZ) (I : jI) (L : jL) (Q : Int64 → jI → jL → Prop) : Prop := (f_X6_moveTo v1 v2 Z I L (fun r7 I3 L4 => (∀ b8 : Nat, jr Z v0 4 = some b8 → (vp_in r7 75 ∧ (∀ b10 : Nat, jr Z v0 5 = some b10 → (vp_in r7 75 ∧ (f_X11_bitOf (v1 - (1 : Int32)) Z I3 L4 (fun r18 I14 L15 => Q ((((((I3 b8 r7.toNatClampNeg).toInt64) <<< ((41 : Int32).toInt64 &&& 63)) + (((I3 b10 r7.toNatClampNeg).toInt64) <<< ((29 : Int32).toInt64 &&& 63))) + (16777216 : Int64)) - r18) I14 L15))))))))
set_option maxHeartbeats 4000000 in
set_option maxRecDepth 100000 in
theorem c_X6_keyOf (l : Launch) (D : va_G) (cy : jC) (v0 : Nat) (v1 : Int32) (v2 : Int32) (Z : jZ) (I : jI) (L : jL) (Q : Int64 → jI → jL → Prop) (hZ : SH Z) (kv0 : jk Z v0 6) (h : f_X6_keyOf v0 v1 v2 Z I L Q) : jCt l yX6_keyOf w_X6_keyOf { frames := 1, cells := 0, slots := 0, locals := 21 } D cy [.ref v0, .int v1, .int v2] Z I L (rtL Z Q) := by
  refine jCt_of (cc := cX6_keyOf) (maxL := 4) (ret := (some .long)) (by decide +kernel) rfl (Nat.le_of_ble_eq_true rfl) ?_
  intro G eD eY eL E
  subst eD; subst eY; subst eL
  have E : jE G cX6_keyOf RX6 w_X6_keyOf 4 (some .long) { frames := 1, cells := 0, slots := 0, locals := 21 } (rtL Z Q) := E
  show jJ G 4 0 [(0, .ref v0), (1, .int v1), (2, .int v2)] [] Z I L 0 0
  refine j_iload_n E dX6_keyOf_0 1 rfl ?_
  refine j_iload_n E dX6_keyOf_1 2 rfl ?_
  refine j_callS E [.int v1, .int v2] [] (c_X6_moveTo (gL G) (gD G) (gY G) v1 v2 Z I L _ hZ  h) (gwS W_34 W_35 W_33 W_32) rfl fy_X6_moveTo ⟨by decide, by decide⟩ rfl rfl (Nat.le_of_ble_eq_true rfl) ⟨Nat.zero_le _, Nat.zero_le _⟩ dX6_keyOf_2 (fun v1 Z2 I3 L4 q5 => ?_)
  obtain ⟨rfl, r7, rfl, h⟩ := q5
  show jJ G 4 5 [(0, .ref v0), (1, .int v1), (2, .int v2)] [.int r7] Z I3 L4 0 0
  refine j_istore_n E 3 [(3, .int r7), (0, .ref v0), (1, .int v1), (2, .int v2)] dX6_keyOf_5 rfl (by decide) rfl ?_
  refine j_aload_n E dX6_keyOf_6 1 rfl ?_
  obtain ⟨b8, eb8, kb8, lb8⟩ := sh_f hZ kv0 (j := 4) (k := 14) (m := 75) rfl
  have h := h b8 eb8
  refine j_getr E 6 4 rfl rfl (by decide) (by decide) (iw iT_6) rfl rfl (tw W_36) kv0 eb8 dX6_keyOf_7 ?_
  refine j_iload_n E dX6_keyOf_10 0 rfl ?_
  obtain ⟨o9, h⟩ := h
  refine j_iald E kb8 (by rw [lb8]; exact o9) dX6_keyOf_11 ?_
  refine j_i2l E dX6_keyOf_12 ?_
  refine j_bipush E (v := 41) dX6_keyOf_13 (by decide) ?_
  refine j_lshl E dX6_keyOf_15 ?_
  refine j_aload_n E dX6_keyOf_16 1 rfl ?_
  obtain ⟨b10, eb10, kb10, lb10⟩ := sh_f hZ kv0 (j := 5) (k := 14) (m := 75) rfl
  have h := h b10 eb10
  refine j_getr E 6 5 rfl rfl (by decide) (by decide) (iw iT_6) rfl rfl (tw W_37) kv0 eb10 dX6_keyOf_17 ?_
  refine j_iload_n E dX6_keyOf_20 0 rfl ?_
  obtain ⟨o11, h⟩ := h
  refine j_iald E kb10 (by rw [lb10]; exact o11) dX6_keyOf_21 ?_
  refine j_i2l E dX6_keyOf_22 ?_
  refine j_bipush E (v := 29) dX6_keyOf_23 (by decide) ?_
  refine j_lshl E dX6_keyOf_25 ?_
  refine j_ladd E dX6_keyOf_26 ?_
  refine j_ldc2 E (tw W_38) dX6_keyOf_27 ?_
  refine j_ladd E dX6_keyOf_30 ?_
  refine j_iload_n E dX6_keyOf_31 2 rfl ?_
  refine j_iconst E (v := 1) dX6_keyOf_32 (by decide) ?_
  refine j_isub E dX6_keyOf_33 ?_
  refine j_callSN E [.int (v1 - (1 : Int32))] [.long (((((I3 b8 r7.toNatClampNeg).toInt64) <<< ((41 : Int32).toInt64 &&& 63)) + (((I3 b10 r7.toNatClampNeg).toInt64) <<< ((29 : Int32).toInt64 &&& 63))) + (16777216 : Int64))] (c_X11_bitOf (gL G) (gD G) (gY G) (v1 - (1 : Int32)) Z I3 L4 _ hZ  h) (gwN W_39) rfl (nm_X11_bitOf_X6_111) (tw W_40) (tw W_41) fy_X11_bitOf ⟨by decide, by decide⟩ rfl rfl (Nat.le_of_ble_eq_true rfl) ⟨Nat.zero_le _, Nat.zero_le _⟩ dX6_keyOf_34 (fun v12 Z13 I14 L15 q16 => ?_)
  obtain ⟨rfl, r18, rfl, h⟩ := q16
  show jJ G 4 37 [(3, .int r7), (0, .ref v0), (1, .int v1), (2, .int v2)] [.long r18, .long (((((I3 b8 r7.toNatClampNeg).toInt64) <<< ((41 : Int32).toInt64 &&& 63)) + (((I3 b10 r7.toNatClampNeg).toInt64) <<< ((29 : Int32).toInt64 &&& 63))) + (16777216 : Int64))] Z I14 L15 0 0
  refine j_lsub E dX6_keyOf_37 ?_
  exact j_lreturn E ⟨rfl, _, rfl, h⟩ (Nat.zero_le _) (Nat.zero_le _) dX6_keyOf_38
set_option maxRecDepth 100000 in
def f_X7_sizeAt (v0 : Nat) (v1 : Int32) (Z : jZ) (I : jI) (L : jL) (Q : Int32 → jI → jL → Prop) : Prop := ((v1 < 0 → Q (0 : Int32) I L) ∧ (¬ (v1 < 0) → (((25 : Int32) ≤ v1 → Q (0 : Int32) I L) ∧ (¬ ((25 : Int32) ≤ v1) → (∀ b3 : Nat, jr Z v0 2 = some b3 → (vp_in v1 25 ∧ Q (I b3 v1.toNatClampNeg) I L))))))
set_option maxHeartbeats 4000000 in
set_option maxRecDepth 100000 in
theorem c_X7_sizeAt (l : Launch) (D : va_G) (cy : jC) (v0 : Nat) (v1 : Int32) (Z : jZ) (I : jI) (L : jL) (Q : Int32 → jI → jL → Prop) (hZ : SH Z) (kv0 : jk Z v0 7) (h : f_X7_sizeAt v0 v1 Z I L Q) : jCt l yX7_sizeAt w_X7_sizeAt { frames := 0, cells := 0, slots := 0, locals := 0 } D cy [.ref v0, .int v1] Z I L (rtI Z Q) := by
  refine jCt_of (cc := cX7_sizeAt) (maxL := 2) (ret := (some .int)) (by decide +kernel) rfl (Nat.le_of_ble_eq_true rfl) ?_
  intro G eD eY eL E
  subst eD; subst eY; subst eL
  have E : jE G cX7_sizeAt RX7 w_X7_sizeAt 2 (some .int) { frames := 0, cells := 0, slots := 0, locals := 0 } (rtI Z Q) := E
  show jJ G 2 0 [(0, .ref v0), (1, .int v1)] [] Z I L 0 0
  refine j_iload_n E dX7_sizeAt_0 1 rfl ?_
  refine j_if_lt E 19 dX7_sizeAt_1 (by decide) (fun c1 => ?_) (fun c1 => ?_)
  · have h := h.1 c1
    refine j_iconst E (v := 0) dX7_sizeAt_19 (by decide) ?_
    exact j_ireturn E ⟨rfl, _, rfl, h⟩ (Nat.zero_le _) (Nat.zero_le _) dX7_sizeAt_20
  · have h := h.2 c1
    refine j_iload_n E dX7_sizeAt_4 1 rfl ?_
    refine j_bipush E (v := 25) dX7_sizeAt_5 (by decide) ?_
    refine j_icmp_ge E 19 dX7_sizeAt_7 (by decide) (fun c2 => ?_) (fun c2 => ?_)
    · have h := h.1 c2
      refine j_iconst E (v := 0) dX7_sizeAt_19 (by decide) ?_
      exact j_ireturn E ⟨rfl, _, rfl, h⟩ (Nat.zero_le _) (Nat.zero_le _) dX7_sizeAt_20
    · have h := h.2 c2
      refine j_aload_n E dX7_sizeAt_10 0 rfl ?_
      obtain ⟨b3, eb3, kb3, lb3⟩ := sh_f hZ kv0 (j := 2) (k := 14) (m := 25) rfl
      have h := h b3 eb3
      refine j_getr E 7 2 rfl rfl (by decide) (by decide) (iw iT_7) rfl rfl (tw W_4) kv0 eb3 dX7_sizeAt_11 ?_
      refine j_iload_n E dX7_sizeAt_14 1 rfl ?_
      obtain ⟨o4, h⟩ := h
      refine j_iald E kb3 (by rw [lb3]; exact o4) dX7_sizeAt_15 ?_
      refine j_goto E 20 dX7_sizeAt_16 (by decide) ?_
      exact j_ireturn E ⟨rfl, _, rfl, h⟩ (Nat.zero_le _) (Nat.zero_le _) dX7_sizeAt_20
set_option maxRecDepth 100000 in
def f_X7_merge (v0 : Nat) (v1 : Int32) (v2 : Int64) (Z : jZ) (I : jI) (L : jL) (Q : jI → jL → Prop) : Prop := (f_X7_sizeAt v0 v1 Z I L (fun r7 I3 L4 => ((r7 ≤ 0 → Q I3 L4) ∧ (¬ (r7 ≤ 0) → (((3 : Int32) ≤ (I3 v0 8) → Q I3 L4) ∧ (¬ ((3 : Int32) ≤ (I3 v0 8)) → (∀ b10 : Nat, jr Z v0 4 = some b10 → (∀ b11 : Nat, jr Z v0 1 = some b11 → (vp_in v1 25 ∧ (vp_in (I3 v0 8) 3 ∧ (∀ I14 : jI, I14 = jpI I3 b10 (I3 v0 8).toNatClampNeg (I3 b11 v1.toNatClampNeg) → (∀ b15 : Nat, jr Z v0 5 = some b15 → (∀ b16 : Nat, jr Z v0 1 = some b16 → (vp_in v1 25 ∧ (vp_in (I14 v0 8) 3 ∧ (∀ I19 : jI, I19 = jpI I14 b15 (I14 v0 8).toNatClampNeg ((I14 b16 v1.toNatClampNeg) + r7) → (∀ b20 : Nat, jr Z v0 6 = some b20 → (vp_in (I19 v0 8) 3 ∧ (∀ L22 : jL, L22 = jpL L4 b20 (I19 v0 8).toNatClampNeg v2 → (∀ b23 : Nat, jr Z v0 7 = some b23 → (∀ b24 : Nat, jr Z v0 0 = some b24 → (∀ b25 : Nat, jr Z v0 1 = some b25 → (vp_in v1 25 ∧ (vp_in (I19 b25 v1.toNatClampNeg) (jlen Z b24) ∧ (vp_in (I19 v0 8) 3 ∧ (∀ L29 : jL, L29 = jpL L22 b23 (I19 v0 8).toNatClampNeg ((L22 b24 (I19 b25 v1.toNatClampNeg).toNatClampNeg) + v2) → (∀ I30 : jI, I30 = jpI I19 v0 8 ((I19 v0 8) + (1 : Int32)) → (∀ I31 : jI, I31 = jpI I30 v0 9 ((I30 v0 9) + r7) → Q I31 L29))))))))))))))))))))))))))))
set_option maxHeartbeats 4000000 in
set_option maxRecDepth 100000 in
theorem c_X7_merge (l : Launch) (D : va_G) (cy : jC) (v0 : Nat) (v1 : Int32) (v2 : Int64) (Z : jZ) (I : jI) (L : jL) (Q : jI → jL → Prop) (hZ : SH Z) (kv0 : jk Z v0 7) (h : f_X7_merge v0 v1 v2 Z I L Q) : jCt l yX7_merge w_X7_merge { frames := 1, cells := 0, slots := 0, locals := 21 } D cy [.ref v0, .int v1, .long v2] Z I L (rtV Z Q) := by
  refine jCt_of (cc := cX7_merge) (maxL := 5) (ret := none) (by decide +kernel) rfl (Nat.le_of_ble_eq_true rfl) ?_
  intro G eD eY eL E
  subst eD; subst eY; subst eL
  have E : jE G cX7_merge RX7 w_X7_merge 5 none { frames := 1, cells := 0, slots := 0, locals := 21 } (rtV Z Q) := E
  show jJ G 5 0 [(0, .ref v0), (1, .int v1), (2, .long v2)] [] Z I L 0 0
  refine j_aload_n E dX7_merge_0 0 rfl ?_
  refine j_iload_n E dX7_merge_1 1 rfl ?_
  refine j_callV E [.int v1] [] (c_X7_sizeAt (gL G) (gD G) (gY G) v0 v1 Z I L _ hZ kv0 h) (gwV W_43 W_44 W_45 W_24 W_42) rfl ⟨rfl, fy_X7_sizeAt⟩ ⟨by decide, by decide⟩ (c := 7) rfl (by decide) kv0 rfl rfl (Nat.le_of_ble_eq_true rfl) ⟨Nat.zero_le _, Nat.zero_le _⟩ dX7_merge_2 (fun v1 Z2 I3 L4 q5 => ?_)
  obtain ⟨rfl, r7, rfl, h⟩ := q5
  show jJ G 5 5 [(0, .ref v0), (1, .int v1), (2, .long v2)] [.int r7] Z I3 L4 0 0
  refine j_istore E 4 [(4, .int r7), (0, .ref v0), (1, .int v1), (2, .long v2)] dX7_merge_5 (by decide) rfl ?_
  refine j_iload E dX7_merge_7 0 rfl ?_
  refine j_if_le E 106 dX7_merge_9 (by decide) (fun c8 => ?_) (fun c8 => ?_)
  · have h := h.1 c8
    exact j_return E ⟨rfl, rfl, h⟩ (Nat.zero_le _) (Nat.zero_le _) dX7_merge_106
  · have h := h.2 c8
    refine j_aload_n E dX7_merge_12 1 rfl ?_
    refine j_geti E 7 8 rfl rfl (by decide) (by decide) (iw iT_7) rfl rfl (tw W_0) kv0 dX7_merge_13 ?_
    refine j_iconst E (v := 3) dX7_merge_16 (by decide) ?_
    refine j_icmp_ge E 106 dX7_merge_17 (by decide) (fun c9 => ?_) (fun c9 => ?_)
    · have h := h.1 c9
      exact j_return E ⟨rfl, rfl, h⟩ (Nat.zero_le _) (Nat.zero_le _) dX7_merge_106
    · have h := h.2 c9
      refine j_aload_n E dX7_merge_20 1 rfl ?_
      obtain ⟨b10, eb10, kb10, lb10⟩ := sh_f hZ kv0 (j := 4) (k := 14) (m := 3) rfl
      have h := h b10 eb10
      refine j_getr E 7 4 rfl rfl (by decide) (by decide) (iw iT_7) rfl rfl (tw W_46) kv0 eb10 dX7_merge_21 ?_
      refine j_aload_n E dX7_merge_24 1 rfl ?_
      refine j_geti E 7 8 rfl rfl (by decide) (by decide) (iw iT_7) rfl rfl (tw W_0) kv0 dX7_merge_25 ?_
      refine j_aload_n E dX7_merge_28 1 rfl ?_
      obtain ⟨b11, eb11, kb11, lb11⟩ := sh_f hZ kv0 (j := 1) (k := 14) (m := 25) rfl
      have h := h b11 eb11
      refine j_getr E 7 1 rfl rfl (by decide) (by decide) (iw iT_7) rfl rfl (tw W_2) kv0 eb11 dX7_merge_29 ?_
      refine j_iload_n E dX7_merge_32 2 rfl ?_
      obtain ⟨o12, h⟩ := h
      refine j_iald E kb11 (by rw [lb11]; exact o12) dX7_merge_33 ?_
      obtain ⟨o13, h⟩ := h
      refine j_iast E kb10 (by rw [lb10]; exact o13) dX7_merge_34 ?_
      refine j_nmI (fun I14 eI14 => ?_)
      have h := h I14 eI14
      refine j_aload_n E dX7_merge_35 1 rfl ?_
      obtain ⟨b15, eb15, kb15, lb15⟩ := sh_f hZ kv0 (j := 5) (k := 14) (m := 3) rfl
      have h := h b15 eb15
      refine j_getr E 7 5 rfl rfl (by decide) (by decide) (iw iT_7) rfl rfl (tw W_47) kv0 eb15 dX7_merge_36 ?_
      refine j_aload_n E dX7_merge_39 1 rfl ?_
      refine j_geti E 7 8 rfl rfl (by decide) (by decide) (iw iT_7) rfl rfl (tw W_0) kv0 dX7_merge_40 ?_
      refine j_aload_n E dX7_merge_43 1 rfl ?_
      obtain ⟨b16, eb16, kb16, lb16⟩ := sh_f hZ kv0 (j := 1) (k := 14) (m := 25) rfl
      have h := h b16 eb16
      refine j_getr E 7 1 rfl rfl (by decide) (by decide) (iw iT_7) rfl rfl (tw W_2) kv0 eb16 dX7_merge_44 ?_
      refine j_iload_n E dX7_merge_47 2 rfl ?_
      obtain ⟨o17, h⟩ := h
      refine j_iald E kb16 (by rw [lb16]; exact o17) dX7_merge_48 ?_
      refine j_iload E dX7_merge_49 0 rfl ?_
      refine j_iadd E dX7_merge_51 ?_
      obtain ⟨o18, h⟩ := h
      refine j_iast E kb15 (by rw [lb15]; exact o18) dX7_merge_52 ?_
      refine j_nmI (fun I19 eI19 => ?_)
      have h := h I19 eI19
      refine j_aload_n E dX7_merge_53 1 rfl ?_
      obtain ⟨b20, eb20, kb20, lb20⟩ := sh_f hZ kv0 (j := 6) (k := 15) (m := 3) rfl
      have h := h b20 eb20
      refine j_getr E 7 6 rfl rfl (by decide) (by decide) (iw iT_7) rfl rfl (tw W_48) kv0 eb20 dX7_merge_54 ?_
      refine j_aload_n E dX7_merge_57 1 rfl ?_
      refine j_geti E 7 8 rfl rfl (by decide) (by decide) (iw iT_7) rfl rfl (tw W_0) kv0 dX7_merge_58 ?_
      refine j_lload_n E dX7_merge_61 3 rfl ?_
      obtain ⟨o21, h⟩ := h
      refine j_last E kb20 (by rw [lb20]; exact o21) dX7_merge_62 ?_
      refine j_nmL (fun L22 eL22 => ?_)
      have h := h L22 eL22
      refine j_aload_n E dX7_merge_63 1 rfl ?_
      obtain ⟨b23, eb23, kb23, lb23⟩ := sh_f hZ kv0 (j := 7) (k := 15) (m := 3) rfl
      have h := h b23 eb23
      refine j_getr E 7 7 rfl rfl (by decide) (by decide) (iw iT_7) rfl rfl (tw W_49) kv0 eb23 dX7_merge_64 ?_
      refine j_aload_n E dX7_merge_67 1 rfl ?_
      refine j_geti E 7 8 rfl rfl (by decide) (by decide) (iw iT_7) rfl rfl (tw W_0) kv0 dX7_merge_68 ?_
      refine j_aload_n E dX7_merge_71 1 rfl ?_
      obtain ⟨b24, eb24, kb24⟩ := sh_o hZ kv0 (j := 0) (k := 15) rfl
      have h := h b24 eb24
      refine j_getr E 7 0 rfl rfl (by decide) (by decide) (iw iT_7) rfl rfl (tw W_14) kv0 eb24 dX7_merge_72 ?_
      refine j_aload_n E dX7_merge_75 1 rfl ?_
      obtain ⟨b25, eb25, kb25, lb25⟩ := sh_f hZ kv0 (j := 1) (k := 14) (m := 25) rfl
      have h := h b25 eb25
      refine j_getr E 7 1 rfl rfl (by decide) (by decide) (iw iT_7) rfl rfl (tw W_2) kv0 eb25 dX7_merge_76 ?_
      refine j_iload_n E dX7_merge_79 2 rfl ?_
      obtain ⟨o26, h⟩ := h
      refine j_iald E kb25 (by rw [lb25]; exact o26) dX7_merge_80 ?_
      obtain ⟨o27, h⟩ := h
      refine j_lald E kb24 o27 dX7_merge_81 ?_
      refine j_lload_n E dX7_merge_82 3 rfl ?_
      refine j_ladd E dX7_merge_83 ?_
      obtain ⟨o28, h⟩ := h
      refine j_last E kb23 (by rw [lb23]; exact o28) dX7_merge_84 ?_
      refine j_nmL (fun L29 eL29 => ?_)
      have h := h L29 eL29
      refine j_aload_n E dX7_merge_85 1 rfl ?_
      refine j_dup E dX7_merge_86 rfl ?_
      refine j_geti E 7 8 rfl rfl (by decide) (by decide) (iw iT_7) rfl rfl (tw W_0) kv0 dX7_merge_87 ?_
      refine j_iconst E (v := 1) dX7_merge_90 (by decide) ?_
      refine j_iadd E dX7_merge_91 ?_
      refine j_puti E 7 8 rfl rfl (by decide) (by decide) (iw iT_7) tyX7_ok nmX7 rfl rfl (tw W_0) rfl rfl rfl kv0 dX7_merge_92 ?_
      refine j_nmI (fun I30 eI30 => ?_)
      have h := h I30 eI30
      refine j_aload_n E dX7_merge_95 1 rfl ?_
      refine j_dup E dX7_merge_96 rfl ?_
      refine j_geti E 7 9 rfl rfl (by decide) (by decide) (iw iT_7) rfl rfl (tw W_1) kv0 dX7_merge_97 ?_
      refine j_iload E dX7_merge_100 0 rfl ?_
      refine j_iadd E dX7_merge_102 ?_
      refine j_puti E 7 9 rfl rfl (by decide) (by decide) (iw iT_7) tyX7_ok nmX7 rfl rfl (tw W_1) rfl rfl rfl kv0 dX7_merge_103 ?_
      refine j_nmI (fun I31 eI31 => ?_)
      have h := h I31 eI31
      exact j_return E ⟨rfl, rfl, h⟩ (Nat.zero_le _) (Nat.zero_le _) dX7_merge_106
set_option maxRecDepth 100000 in
def f_X6_feed_b80 (K8 : Nat → Nat → Int32 → Int64 → Int32 → Int32 → jI → jL → Prop) (Z : jZ) (Q : jI → jL → Prop) (v0 : Nat) (v1 : Nat) (v2 : Int32) (v3 : Int64) (v5 : Int32) (v6 : Int32) (I : jI) (L : jL) : Prop := (∀ x1 : Int32, x1 = v6 + 1 → K8 v0 v1 v2 v3 v5 x1 I L)
set_option maxHeartbeats 4000000 in
set_option maxRecDepth 100000 in
theorem m_X6_feed_b80 {G : jG} {Z : jZ} {Q : jI → jL → Prop} (E : jE G cX6_feed RX6 w_X6_feed 8 none { frames := 2, cells := 0, slots := 0, locals := 45 } (rtV Z Q)) (hZ : SH Z) (K8 : Nat → Nat → Int32 → Int64 → Int32 → Int32 → jI → jL → Prop) (hK8 : ∀ (v0 : Nat) (v1 : Nat) (v2 : Int32) (v3 : Int64) (v5 : Int32) (v6 : Int32) (I : jI) (L : jL), jk Z v0 6 → jk Z v1 7 → K8 v0 v1 v2 v3 v5 v6 I L → jJ G 8 8 [(0, .ref v0), (1, .ref v1), (2, .int v2), (3, .long v3), (5, .int v5), (6, .int v6)] [] Z I L 0 0) (v0 : Nat) (v1 : Nat) (v2 : Int32) (v3 : Int64) (v5 : Int32) (v6 : Int32) (I : jI) (L : jL) (kv0 : jk Z v0 6) (kv1 : jk Z v1 7) (h : f_X6_feed_b80 K8 Z Q v0 v1 v2 v3 v5 v6 I L) : jJ G 8 80 [(0, .ref v0), (1, .ref v1), (2, .int v2), (3, .long v3), (5, .int v5), (6, .int v6)] [] Z I L 0 0 := by
  obtain ⟨x1, ex1⟩ : ∃ y : Int32, y = v6 + 1 := ⟨_, rfl⟩
  have h := h x1 ex1
  refine j_iinc E x1 [(6, .int x1), (0, .ref v0), (1, .ref v1), (2, .int v2), (3, .long v3), (5, .int v5)] dX6_feed_80 5 rfl (by rw [ex1]; rfl) (by decide) rfl ?_
  refine j_goto E 8 dX6_feed_83 (by decide) ?_
  refine j_sub [1, 2, 3, 4, 5, 0] rfl ?_
  exact hK8 v0 v1 v2 v3 v5 x1 I L kv0 kv1 h
set_option maxRecDepth 100000 in
def f_X6_feed_b56 (K8 : Nat → Nat → Int32 → Int64 → Int32 → Int32 → jI → jL → Prop) (Z : jZ) (Q : jI → jL → Prop) (v0 : Nat) (v1 : Nat) (v2 : Int32) (v3 : Int64) (v5 : Int32) (v6 : Int32) (s0 : Int32) (I : jI) (L : jL) : Prop := ((¬ s0 = 0 → f_X6_feed_b80 K8 Z Q v0 v1 v2 v3 v5 v6 I L) ∧ (s0 = 0 → (f_X6_keyOf v0 v2 v6 Z I L (fun r9 I5 L6 => (f_X7_merge v1 (v2 - v6) (r9 &&& v3) Z I5 L6 (fun I12 L13 => f_X6_feed_b80 K8 Z Q v0 v1 v2 v3 v5 v6 I12 L13))))))
set_option maxHeartbeats 4000000 in
set_option maxRecDepth 100000 in
theorem m_X6_feed_b56 {G : jG} {Z : jZ} {Q : jI → jL → Prop} (E : jE G cX6_feed RX6 w_X6_feed 8 none { frames := 2, cells := 0, slots := 0, locals := 45 } (rtV Z Q)) (hZ : SH Z) (K8 : Nat → Nat → Int32 → Int64 → Int32 → Int32 → jI → jL → Prop) (hK8 : ∀ (v0 : Nat) (v1 : Nat) (v2 : Int32) (v3 : Int64) (v5 : Int32) (v6 : Int32) (I : jI) (L : jL), jk Z v0 6 → jk Z v1 7 → K8 v0 v1 v2 v3 v5 v6 I L → jJ G 8 8 [(0, .ref v0), (1, .ref v1), (2, .int v2), (3, .long v3), (5, .int v5), (6, .int v6)] [] Z I L 0 0) (v0 : Nat) (v1 : Nat) (v2 : Int32) (v3 : Int64) (v5 : Int32) (v6 : Int32) (s0 : Int32) (I : jI) (L : jL) (kv0 : jk Z v0 6) (kv1 : jk Z v1 7) (h : f_X6_feed_b56 K8 Z Q v0 v1 v2 v3 v5 v6 s0 I L) : jJ G 8 56 [(0, .ref v0), (1, .ref v1), (2, .int v2), (3, .long v3), (5, .int v5), (6, .int v6)] [.int s0] Z I L 0 0 := by
  refine j_istore E 7 [(7, .int s0), (0, .ref v0), (1, .ref v1), (2, .int v2), (3, .long v3), (5, .int v5), (6, .int v6)] dX6_feed_56 (by decide) rfl ?_
  refine j_iload E dX6_feed_58 0 rfl ?_
  refine j_if_ne E 80 dX6_feed_60 (by decide) (fun c2 => ?_) (fun c2 => ?_)
  · have h := h.1 c2
    refine j_sub [1, 2, 3, 4, 5, 6] rfl ?_
    exact m_X6_feed_b80 E hZ K8 hK8 v0 v1 v2 v3 v5 v6 I L kv0 kv1 h
  · have h := h.2 c2
    refine j_aload_n E dX6_feed_63 2 rfl ?_
    refine j_iload_n E dX6_feed_64 3 rfl ?_
    refine j_iload E dX6_feed_65 6 rfl ?_
    refine j_isub E dX6_feed_67 ?_
    refine j_aload_n E dX6_feed_68 1 rfl ?_
    refine j_iload_n E dX6_feed_69 3 rfl ?_
    refine j_iload E dX6_feed_70 6 rfl ?_
    refine j_callV E [.int v2, .int v6] [.int (v2 - v6), .ref v1] (c_X6_keyOf (gL G) (gD G) (gY G) v0 v2 v6 Z I L _ hZ kv0 h) (gwV W_51 W_52 W_53 W_33 W_50) rfl ⟨rfl, fy_X6_keyOf⟩ ⟨by decide, by decide⟩ (c := 6) rfl (by decide) kv0 rfl rfl (Nat.le_of_ble_eq_true rfl) ⟨Nat.zero_le _, Nat.zero_le _⟩ dX6_feed_72 (fun v3 Z4 I5 L6 q7 => ?_)
    obtain ⟨rfl, r9, rfl, h⟩ := q7
    show jJ G 8 75 [(7, .int s0), (0, .ref v0), (1, .ref v1), (2, .int v2), (3, .long v3), (5, .int v5), (6, .int v6)] [.long r9, .int (v2 - v6), .ref v1] Z I5 L6 0 0
    refine j_lload_n E dX6_feed_75 4 rfl ?_
    refine j_land E dX6_feed_76 ?_
    refine j_callV E [.int (v2 - v6), .long (r9 &&& v3)] [] (c_X7_merge (gL G) (gD G) (gY G) v1 (v2 - v6) (r9 &&& v3) Z I5 L6 _ hZ kv1 h) (gwV W_55 W_56 W_57 W_24 W_54) rfl ⟨rfl, fy_X7_merge⟩ ⟨by decide, by decide⟩ (c := 7) rfl (by decide) kv1 rfl rfl (Nat.le_of_ble_eq_true rfl) ⟨Nat.zero_le _, Nat.zero_le _⟩ dX6_feed_77 (fun v10 Z11 I12 L13 q14 => ?_)
    obtain ⟨rfl, rfl, h⟩ := q14
    show jJ G 8 80 [(7, .int s0), (0, .ref v0), (1, .ref v1), (2, .int v2), (3, .long v3), (5, .int v5), (6, .int v6)] [] Z I12 L13 0 0
    refine j_sub [1, 2, 3, 4, 5, 6] rfl ?_
    exact m_X6_feed_b80 E hZ K8 hK8 v0 v1 v2 v3 v5 v6 I12 L13 kv0 kv1 h
set_option maxRecDepth 100000 in
def f_X6_feed_b55 (K8 : Nat → Nat → Int32 → Int64 → Int32 → Int32 → jI → jL → Prop) (Z : jZ) (Q : jI → jL → Prop) (v0 : Nat) (v1 : Nat) (v2 : Int32) (v3 : Int64) (v5 : Int32) (v6 : Int32) (I : jI) (L : jL) : Prop := f_X6_feed_b56 K8 Z Q v0 v1 v2 v3 v5 v6 (0 : Int32) I L
set_option maxHeartbeats 4000000 in
set_option maxRecDepth 100000 in
theorem m_X6_feed_b55 {G : jG} {Z : jZ} {Q : jI → jL → Prop} (E : jE G cX6_feed RX6 w_X6_feed 8 none { frames := 2, cells := 0, slots := 0, locals := 45 } (rtV Z Q)) (hZ : SH Z) (K8 : Nat → Nat → Int32 → Int64 → Int32 → Int32 → jI → jL → Prop) (hK8 : ∀ (v0 : Nat) (v1 : Nat) (v2 : Int32) (v3 : Int64) (v5 : Int32) (v6 : Int32) (I : jI) (L : jL), jk Z v0 6 → jk Z v1 7 → K8 v0 v1 v2 v3 v5 v6 I L → jJ G 8 8 [(0, .ref v0), (1, .ref v1), (2, .int v2), (3, .long v3), (5, .int v5), (6, .int v6)] [] Z I L 0 0) (v0 : Nat) (v1 : Nat) (v2 : Int32) (v3 : Int64) (v5 : Int32) (v6 : Int32) (I : jI) (L : jL) (kv0 : jk Z v0 6) (kv1 : jk Z v1 7) (h : f_X6_feed_b55 K8 Z Q v0 v1 v2 v3 v5 v6 I L) : jJ G 8 55 [(0, .ref v0), (1, .ref v1), (2, .int v2), (3, .long v3), (5, .int v5), (6, .int v6)] [] Z I L 0 0 := by
  refine j_iconst E (v := 0) dX6_feed_55 (by decide) ?_
  refine j_sub [0, 1, 2, 3, 4, 5] rfl ?_
  exact m_X6_feed_b56 E hZ K8 hK8 v0 v1 v2 v3 v5 v6 (0 : Int32) I L kv0 kv1 h
set_option maxRecDepth 100000 in
def f_X6_feed_L8  (Z : jZ) (Q : jI → jL → Prop) : Nat → Nat → Nat → Int32 → Int64 → Int32 → Int32 → jI → jL → Prop
  | 0 => fun _ _ _ _ _ _ _ _ => False
  | n + 1 => fun v0 v1 v2 v3 v5 v6 I L => (((I v0 3) < v6 → Q I L) ∧ (¬ ((I v0 3) < v6) → ((v2 < v6 → Q I L) ∧ (¬ (v2 < v6) → (∀ b18 : Nat, jr Z v0 6 = some b18 → (vp_in v2 25 ∧ (((I b18 v2.toNatClampNeg) = 0 → Q I L) ∧ (¬ ((I b18 v2.toNatClampNeg) = 0) → (((v5 + (1 : Int32)) ≤ (v2 - v6) → f_X6_feed_b55 (f_X6_feed_L8 Z Q n) Z Q v0 v1 v2 v3 v5 v6 I L) ∧ (¬ ((v5 + (1 : Int32)) ≤ (v2 - v6)) → ((v2 ≤ (v5 + (1 : Int32)) → f_X6_feed_b55 (f_X6_feed_L8 Z Q n) Z Q v0 v1 v2 v3 v5 v6 I L) ∧ (¬ (v2 ≤ (v5 + (1 : Int32))) → f_X6_feed_b56 (f_X6_feed_L8 Z Q n) Z Q v0 v1 v2 v3 v5 v6 (1 : Int32) I L))))))))))))
set_option maxHeartbeats 4000000 in
set_option maxRecDepth 100000 in
theorem m_X6_feed_L8 {G : jG} {Z : jZ} {Q : jI → jL → Prop} (E : jE G cX6_feed RX6 w_X6_feed 8 none { frames := 2, cells := 0, slots := 0, locals := 45 } (rtV Z Q)) (hZ : SH Z)  : ∀ (n : Nat) (v0 : Nat) (v1 : Nat) (v2 : Int32) (v3 : Int64) (v5 : Int32) (v6 : Int32) (I : jI) (L : jL), jk Z v0 6 → jk Z v1 7 → f_X6_feed_L8  Z Q n v0 v1 v2 v3 v5 v6 I L → jJ G 8 8 [(0, .ref v0), (1, .ref v1), (2, .int v2), (3, .long v3), (5, .int v5), (6, .int v6)] [] Z I L 0 0 := by
  intro n
  induction n with
  | zero => intro v0 v1 v2 v3 v5 v6 I L _ _ h; exact h.elim
  | succ n ih =>
    intro v0 v1 v2 v3 v5 v6 I L kv0 kv1 h
    have h : (((I v0 3) < v6 → Q I L) ∧ (¬ ((I v0 3) < v6) → ((v2 < v6 → Q I L) ∧ (¬ (v2 < v6) → (∀ b18 : Nat, jr Z v0 6 = some b18 → (vp_in v2 25 ∧ (((I b18 v2.toNatClampNeg) = 0 → Q I L) ∧ (¬ ((I b18 v2.toNatClampNeg) = 0) → (((v5 + (1 : Int32)) ≤ (v2 - v6) → f_X6_feed_b55 (f_X6_feed_L8 Z Q n) Z Q v0 v1 v2 v3 v5 v6 I L) ∧ (¬ ((v5 + (1 : Int32)) ≤ (v2 - v6)) → ((v2 ≤ (v5 + (1 : Int32)) → f_X6_feed_b55 (f_X6_feed_L8 Z Q n) Z Q v0 v1 v2 v3 v5 v6 I L) ∧ (¬ (v2 ≤ (v5 + (1 : Int32))) → f_X6_feed_b56 (f_X6_feed_L8 Z Q n) Z Q v0 v1 v2 v3 v5 v6 (1 : Int32) I L)))))))))))) := h
    obtain ⟨K8, eK8⟩ : ∃ K : Nat → Nat → Int32 → Int64 → Int32 → Int32 → jI → jL → Prop, K = f_X6_feed_L8  Z Q n := ⟨_, rfl⟩
    have hK8 := ih
    clear eK8 K8
    generalize f_X6_feed_L8  Z Q n = K8 at hK8 h
    refine j_iload E dX6_feed_8 5 rfl ?_
    refine j_aload_n E dX6_feed_10 0 rfl ?_
    refine j_geti E 6 3 rfl rfl (by decide) (by decide) (iw iT_6) rfl rfl (tw W_58) kv0 dX6_feed_11 ?_
    refine j_icmp_gt E 86 dX6_feed_14 (by decide) (fun c16 => ?_) (fun c16 => ?_)
    · have h := h.1 c16
      exact j_return E ⟨rfl, rfl, h⟩ (Nat.zero_le _) (Nat.zero_le _) dX6_feed_86
    · have h := h.2 c16
      refine j_iload E dX6_feed_17 5 rfl ?_
      refine j_iload_n E dX6_feed_19 2 rfl ?_
      refine j_icmp_gt E 86 dX6_feed_20 (by decide) (fun c17 => ?_) (fun c17 => ?_)
      · have h := h.1 c17
        exact j_return E ⟨rfl, rfl, h⟩ (Nat.zero_le _) (Nat.zero_le _) dX6_feed_86
      · have h := h.2 c17
        refine j_aload_n E dX6_feed_23 0 rfl ?_
        obtain ⟨b18, eb18, kb18, lb18⟩ := sh_f hZ kv0 (j := 6) (k := 16) (m := 25) rfl
        have h := h b18 eb18
        refine j_getr E 6 6 rfl rfl (by decide) (by decide) (iw iT_6) rfl rfl (tw W_59) kv0 eb18 dX6_feed_24 ?_
        refine j_iload_n E dX6_feed_27 2 rfl ?_
        obtain ⟨o19, h⟩ := h
        refine j_zald E kb18 (by rw [lb18]; exact o19) dX6_feed_28 ?_
        refine j_if_eq E 86 dX6_feed_29 (by decide) (fun c20 => ?_) (fun c20 => ?_)
        · have h := h.1 c20
          exact j_return E ⟨rfl, rfl, h⟩ (Nat.zero_le _) (Nat.zero_le _) dX6_feed_86
        · have h := h.2 c20
          refine j_iload_n E dX6_feed_32 2 rfl ?_
          refine j_iload E dX6_feed_33 5 rfl ?_
          refine j_isub E dX6_feed_35 ?_
          refine j_iload E dX6_feed_36 4 rfl ?_
          refine j_iconst E (v := 1) dX6_feed_38 (by decide) ?_
          refine j_iadd E dX6_feed_39 ?_
          refine j_icmp_ge E 55 dX6_feed_40 (by decide) (fun c21 => ?_) (fun c21 => ?_)
          · have h := h.1 c21
            refine j_sub [0, 1, 2, 3, 4, 5] rfl ?_
            exact m_X6_feed_b55 E hZ K8 hK8 v0 v1 v2 v3 v5 v6 I L kv0 kv1 h
          · have h := h.2 c21
            refine j_iload E dX6_feed_43 4 rfl ?_
            refine j_iconst E (v := 1) dX6_feed_45 (by decide) ?_
            refine j_iadd E dX6_feed_46 ?_
            refine j_iload_n E dX6_feed_47 2 rfl ?_
            refine j_icmp_ge E 55 dX6_feed_48 (by decide) (fun c22 => ?_) (fun c22 => ?_)
            · have h := h.1 c22
              refine j_sub [0, 1, 2, 3, 4, 5] rfl ?_
              exact m_X6_feed_b55 E hZ K8 hK8 v0 v1 v2 v3 v5 v6 I L kv0 kv1 h
            · have h := h.2 c22
              refine j_iconst E (v := 1) dX6_feed_51 (by decide) ?_
              refine j_goto E 56 dX6_feed_52 (by decide) ?_
              refine j_sub [0, 1, 2, 3, 4, 5] rfl ?_
              exact m_X6_feed_b56 E hZ K8 hK8 v0 v1 v2 v3 v5 v6 (1 : Int32) I L kv0 kv1 h
set_option maxRecDepth 100000 in
def f_X6_feed (v0 : Nat) (v1 : Nat) (v2 : Int32) (v3 : Int64) (v5 : Int32) (Z : jZ) (I : jI) (L : jL) (Q : jI → jL → Prop) : Prop := (f_X7_start v1 v2 Z I L (fun I25 L26 => (∃ m8 : Nat, f_X6_feed_L8  Z Q m8 v0 v1 v2 v3 v5 (1 : Int32) I25 L26)))
set_option maxHeartbeats 4000000 in
set_option maxRecDepth 100000 in
theorem c_X6_feed (l : Launch) (D : va_G) (cy : jC) (v0 : Nat) (v1 : Nat) (v2 : Int32) (v3 : Int64) (v5 : Int32) (Z : jZ) (I : jI) (L : jL) (Q : jI → jL → Prop) (hZ : SH Z) (kv0 : jk Z v0 6) (kv1 : jk Z v1 7) (h : f_X6_feed v0 v1 v2 v3 v5 Z I L Q) : jCt l yX6_feed w_X6_feed { frames := 2, cells := 0, slots := 0, locals := 45 } D cy [.ref v0, .ref v1, .int v2, .long v3, .int v5] Z I L (rtV Z Q) := by
  refine jCt_of (cc := cX6_feed) (maxL := 8) (ret := none) (by decide +kernel) rfl (Nat.le_of_ble_eq_true rfl) ?_
  intro G eD eY eL E
  subst eD; subst eY; subst eL
  have E : jE G cX6_feed RX6 w_X6_feed 8 none { frames := 2, cells := 0, slots := 0, locals := 45 } (rtV Z Q) := E
  show jJ G 8 0 [(0, .ref v0), (1, .ref v1), (2, .int v2), (3, .long v3), (5, .int v5)] [] Z I L 0 0
  refine j_aload_n E dX6_feed_0 1 rfl ?_
  refine j_iload_n E dX6_feed_1 2 rfl ?_
  refine j_callV E [.int v2] [] (c_X7_start (gL G) (gD G) (gY G) v1 v2 Z I L _ hZ kv1 h) (gwV W_60 W_26 W_27 W_24 W_23) rfl ⟨rfl, fy_X7_start⟩ ⟨by decide, by decide⟩ (c := 7) rfl (by decide) kv1 rfl rfl (Nat.le_of_ble_eq_true rfl) ⟨Nat.zero_le _, Nat.zero_le _⟩ dX6_feed_2 (fun v23 Z24 I25 L26 q27 => ?_)
  obtain ⟨rfl, rfl, h⟩ := q27
  show jJ G 8 5 [(0, .ref v0), (1, .ref v1), (2, .int v2), (3, .long v3), (5, .int v5)] [] Z I25 L26 0 0
  refine j_iconst E (v := 1) dX6_feed_5 (by decide) ?_
  refine j_istore E 6 [(6, .int (1 : Int32)), (0, .ref v0), (1, .ref v1), (2, .int v2), (3, .long v3), (5, .int v5)] dX6_feed_6 (by decide) rfl ?_
  obtain ⟨n29, h⟩ := h
  refine j_sub [1, 2, 3, 4, 5, 0] rfl ?_
  exact m_X6_feed_L8 E hZ  n29 v0 v1 v2 v3 v5 (1 : Int32) I25 L26 kv0 kv1 h
set_option maxRecDepth 100000 in
def f_X7_take_b122  (Z : jZ) (Q : Int64 → jI → jL → Prop) (v0 : Nat) (v2 : Int64) (s0 : Nat) (s1 : Int32) (s2 : Int64) (I : jI) (L : jL) : Prop := (vp_in s1 (jlen Z s0) ∧ (∀ L2 : jL, L2 = jpL L s0 s1.toNatClampNeg s2 → (∀ I3 : jI, I3 = jpI I v0 9 ((I v0 9) - (1 : Int32)) → Q v2 I3 L2)))
set_option maxHeartbeats 4000000 in
set_option maxRecDepth 100000 in
theorem m_X7_take_b122 {G : jG} {Z : jZ} {Q : Int64 → jI → jL → Prop} (E : jE G cX7_take RX7 w_X7_take 5 (some .long) { frames := 0, cells := 0, slots := 0, locals := 0 } (rtL Z Q)) (hZ : SH Z)  (v0 : Nat) (v2 : Int64) (s0 : Nat) (s1 : Int32) (s2 : Int64) (I : jI) (L : jL) (kv0 : jk Z v0 7) (ks0 : jk Z s0 15) (h : f_X7_take_b122  Z Q v0 v2 s0 s1 s2 I L) : jJ G 5 122 [(0, .ref v0), (2, .long v2)] [.long s2, .int s1, .ref s0] Z I L 0 0 := by
  obtain ⟨o1, h⟩ := h
  refine j_last E ks0 o1 dX7_take_122 ?_
  refine j_nmL (fun L2 eL2 => ?_)
  have h := h L2 eL2
  refine j_aload_n E dX7_take_123 0 rfl ?_
  refine j_dup E dX7_take_124 rfl ?_
  refine j_geti E 7 9 rfl rfl (by decide) (by decide) (iw iT_7) rfl rfl (tw W_1) kv0 dX7_take_125 ?_
  refine j_iconst E (v := 1) dX7_take_128 (by decide) ?_
  refine j_isub E dX7_take_129 ?_
  refine j_puti E 7 9 rfl rfl (by decide) (by decide) (iw iT_7) tyX7_ok nmX7 rfl rfl (tw W_1) rfl rfl rfl kv0 dX7_take_130 ?_
  refine j_nmI (fun I3 eI3 => ?_)
  have h := h I3 eI3
  refine j_lload_n E dX7_take_133 1 rfl ?_
  exact j_lreturn E ⟨rfl, _, rfl, h⟩ (Nat.zero_le _) (Nat.zero_le _) dX7_take_134
set_option maxRecDepth 100000 in
def f_X7_take_b119  (Z : jZ) (Q : Int64 → jI → jL → Prop) (v0 : Nat) (v2 : Int64) (s0 : Nat) (s1 : Int32) (I : jI) (L : jL) : Prop := f_X7_take_b122  Z Q v0 v2 s0 s1 (9223372036854775807 : Int64) I L
set_option maxHeartbeats 4000000 in
set_option maxRecDepth 100000 in
theorem m_X7_take_b119 {G : jG} {Z : jZ} {Q : Int64 → jI → jL → Prop} (E : jE G cX7_take RX7 w_X7_take 5 (some .long) { frames := 0, cells := 0, slots := 0, locals := 0 } (rtL Z Q)) (hZ : SH Z)  (v0 : Nat) (v2 : Int64) (s0 : Nat) (s1 : Int32) (I : jI) (L : jL) (kv0 : jk Z v0 7) (ks0 : jk Z s0 15) (h : f_X7_take_b119  Z Q v0 v2 s0 s1 I L) : jJ G 5 119 [(0, .ref v0), (2, .long v2)] [.int s1, .ref s0] Z I L 0 0 := by
  refine j_ldc2 E (tw W_61) dX7_take_119 ?_
  refine j_sub [0, 1] rfl ?_
  exact m_X7_take_b122 E hZ  v0 v2 s0 s1 (9223372036854775807 : Int64) I L kv0 ks0 h
set_option maxRecDepth 100000 in
def f_X7_take_b33 (K4 : Nat → Int32 → Int32 → jI → jL → Prop) (Z : jZ) (Q : Int64 → jI → jL → Prop) (v0 : Nat) (v2 : Int32) (s0 : Int32) (I : jI) (L : jL) : Prop := (∀ x4 : Int32, x4 = v2 + 1 → K4 v0 s0 x4 I L)
set_option maxHeartbeats 4000000 in
set_option maxRecDepth 100000 in
theorem m_X7_take_b33 {G : jG} {Z : jZ} {Q : Int64 → jI → jL → Prop} (E : jE G cX7_take RX7 w_X7_take 5 (some .long) { frames := 0, cells := 0, slots := 0, locals := 0 } (rtL Z Q)) (hZ : SH Z) (K4 : Nat → Int32 → Int32 → jI → jL → Prop) (hK4 : ∀ (v0 : Nat) (v1 : Int32) (v2 : Int32) (I : jI) (L : jL), jk Z v0 7 → K4 v0 v1 v2 I L → jJ G 5 4 [(0, .ref v0), (1, .int v1), (2, .int v2)] [] Z I L 0 0) (v0 : Nat) (v2 : Int32) (s0 : Int32) (I : jI) (L : jL) (kv0 : jk Z v0 7) (h : f_X7_take_b33 K4 Z Q v0 v2 s0 I L) : jJ G 5 33 [(0, .ref v0), (2, .int v2)] [.int s0] Z I L 0 0 := by
  refine j_istore_n E 1 [(1, .int s0), (0, .ref v0), (2, .int v2)] dX7_take_33 rfl (by decide) rfl ?_
  obtain ⟨x4, ex4⟩ : ∃ y : Int32, y = v2 + 1 := ⟨_, rfl⟩
  have h := h x4 ex4
  refine j_iinc E x4 [(2, .int x4), (1, .int s0), (0, .ref v0)] dX7_take_34 2 rfl (by rw [ex4]; rfl) (by decide) rfl ?_
  refine j_goto E 4 dX7_take_37 (by decide) ?_
  refine j_sub [2, 1, 0] rfl ?_
  exact hK4 v0 s0 x4 I L kv0 h
set_option maxRecDepth 100000 in
def f_X7_take_L4  (Z : jZ) (Q : Int64 → jI → jL → Prop) : Nat → Nat → Int32 → Int32 → jI → jL → Prop
  | 0 => fun _ _ _ _ _ => False
  | n + 1 => fun v0 v1 v2 I L => (((I v0 8) ≤ v2 → ((¬ (I v0 9) = 0 → (∀ b7 : Nat, jr Z v0 7 = some b7 → (vp_in v1 3 ∧ (∀ x9 : Int64, x9 = (L b7 v1.toNatClampNeg) → (∀ b10 : Nat, jr Z v0 4 = some b10 → (vp_in v1 3 ∧ (vp_in v1 3 ∧ (∀ I13 : jI, I13 = jpI I b10 v1.toNatClampNeg ((I b10 v1.toNatClampNeg) + (1 : Int32)) → (∀ b14 : Nat, jr Z v0 4 = some b14 → (vp_in v1 3 ∧ (∀ x16 : Int32, x16 = (I13 b14 v1.toNatClampNeg) → (∀ b17 : Nat, jr Z v0 7 = some b17 → (∀ b18 : Nat, jr Z v0 5 = some b18 → (vp_in v1 3 ∧ (((I13 b18 v1.toNatClampNeg) ≤ x16 → f_X7_take_b119  Z Q v0 x9 b17 v1 I13 L) ∧ (¬ ((I13 b18 v1.toNatClampNeg) ≤ x16) → (∀ b21 : Nat, jr Z v0 0 = some b21 → (((nI (jlen Z b21)) ≤ x16 → f_X7_take_b119  Z Q v0 x9 b17 v1 I13 L) ∧ (¬ ((nI (jlen Z b21)) ≤ x16) → (∀ b23 : Nat, jr Z v0 0 = some b23 → (vp_in x16 (jlen Z b23) ∧ (∀ b25 : Nat, jr Z v0 6 = some b25 → (vp_in v1 3 ∧ f_X7_take_b122  Z Q v0 x9 b17 v1 ((L b23 x16.toNatClampNeg) + (L b25 v1.toNatClampNeg)) I13 L))))))))))))))))))))))) ∧ ((I v0 9) = 0 → Q (9223372036854775807 : Int64) I L))) ∧ (¬ ((I v0 8) ≤ v2) → (∀ b27 : Nat, jr Z v0 7 = some b27 → (vp_in v2 3 ∧ (∀ b29 : Nat, jr Z v0 7 = some b29 → (vp_in v1 3 ∧ ((0 ≤ (lg_cmp (L b27 v2.toNatClampNeg) (L b29 v1.toNatClampNeg)) → f_X7_take_b33 (f_X7_take_L4 Z Q n) Z Q v0 v2 v1 I L) ∧ (¬ (0 ≤ (lg_cmp (L b27 v2.toNatClampNeg) (L b29 v1.toNatClampNeg))) → f_X7_take_b33 (f_X7_take_L4 Z Q n) Z Q v0 v2 v2 I L))))))))
set_option maxHeartbeats 4000000 in
set_option maxRecDepth 100000 in
theorem m_X7_take_L4 {G : jG} {Z : jZ} {Q : Int64 → jI → jL → Prop} (E : jE G cX7_take RX7 w_X7_take 5 (some .long) { frames := 0, cells := 0, slots := 0, locals := 0 } (rtL Z Q)) (hZ : SH Z)  : ∀ (n : Nat) (v0 : Nat) (v1 : Int32) (v2 : Int32) (I : jI) (L : jL), jk Z v0 7 → f_X7_take_L4  Z Q n v0 v1 v2 I L → jJ G 5 4 [(0, .ref v0), (1, .int v1), (2, .int v2)] [] Z I L 0 0 := by
  intro n
  induction n with
  | zero => intro v0 v1 v2 I L _ h; exact h.elim
  | succ n ih =>
    intro v0 v1 v2 I L kv0 h
    have h : (((I v0 8) ≤ v2 → ((¬ (I v0 9) = 0 → (∀ b7 : Nat, jr Z v0 7 = some b7 → (vp_in v1 3 ∧ (∀ x9 : Int64, x9 = (L b7 v1.toNatClampNeg) → (∀ b10 : Nat, jr Z v0 4 = some b10 → (vp_in v1 3 ∧ (vp_in v1 3 ∧ (∀ I13 : jI, I13 = jpI I b10 v1.toNatClampNeg ((I b10 v1.toNatClampNeg) + (1 : Int32)) → (∀ b14 : Nat, jr Z v0 4 = some b14 → (vp_in v1 3 ∧ (∀ x16 : Int32, x16 = (I13 b14 v1.toNatClampNeg) → (∀ b17 : Nat, jr Z v0 7 = some b17 → (∀ b18 : Nat, jr Z v0 5 = some b18 → (vp_in v1 3 ∧ (((I13 b18 v1.toNatClampNeg) ≤ x16 → f_X7_take_b119  Z Q v0 x9 b17 v1 I13 L) ∧ (¬ ((I13 b18 v1.toNatClampNeg) ≤ x16) → (∀ b21 : Nat, jr Z v0 0 = some b21 → (((nI (jlen Z b21)) ≤ x16 → f_X7_take_b119  Z Q v0 x9 b17 v1 I13 L) ∧ (¬ ((nI (jlen Z b21)) ≤ x16) → (∀ b23 : Nat, jr Z v0 0 = some b23 → (vp_in x16 (jlen Z b23) ∧ (∀ b25 : Nat, jr Z v0 6 = some b25 → (vp_in v1 3 ∧ f_X7_take_b122  Z Q v0 x9 b17 v1 ((L b23 x16.toNatClampNeg) + (L b25 v1.toNatClampNeg)) I13 L))))))))))))))))))))))) ∧ ((I v0 9) = 0 → Q (9223372036854775807 : Int64) I L))) ∧ (¬ ((I v0 8) ≤ v2) → (∀ b27 : Nat, jr Z v0 7 = some b27 → (vp_in v2 3 ∧ (∀ b29 : Nat, jr Z v0 7 = some b29 → (vp_in v1 3 ∧ ((0 ≤ (lg_cmp (L b27 v2.toNatClampNeg) (L b29 v1.toNatClampNeg)) → f_X7_take_b33 (f_X7_take_L4 Z Q n) Z Q v0 v2 v1 I L) ∧ (¬ (0 ≤ (lg_cmp (L b27 v2.toNatClampNeg) (L b29 v1.toNatClampNeg))) → f_X7_take_b33 (f_X7_take_L4 Z Q n) Z Q v0 v2 v2 I L)))))))) := h
    obtain ⟨K4, eK4⟩ : ∃ K : Nat → Int32 → Int32 → jI → jL → Prop, K = f_X7_take_L4  Z Q n := ⟨_, rfl⟩
    have hK4 := ih
    clear eK4 K4
    generalize f_X7_take_L4  Z Q n = K4 at hK4 h
    refine j_iload_n E dX7_take_4 2 rfl ?_
    refine j_aload_n E dX7_take_5 0 rfl ?_
    refine j_geti E 7 8 rfl rfl (by decide) (by decide) (iw iT_7) rfl rfl (tw W_0) kv0 dX7_take_6 ?_
    refine j_icmp_ge E 40 dX7_take_9 (by decide) (fun c5 => ?_) (fun c5 => ?_)
    · have h := h.1 c5
      refine j_aload_n E dX7_take_40 0 rfl ?_
      refine j_geti E 7 9 rfl rfl (by decide) (by decide) (iw iT_7) rfl rfl (tw W_1) kv0 dX7_take_41 ?_
      refine j_if_ne E 51 dX7_take_44 (by decide) (fun c6 => ?_) (fun c6 => ?_)
      · have h := h.1 c6
        refine j_aload_n E dX7_take_51 0 rfl ?_
        obtain ⟨b7, eb7, kb7, lb7⟩ := sh_f hZ kv0 (j := 7) (k := 15) (m := 3) rfl
        have h := h b7 eb7
        refine j_getr E 7 7 rfl rfl (by decide) (by decide) (iw iT_7) rfl rfl (tw W_49) kv0 eb7 dX7_take_52 ?_
        refine j_iload_n E dX7_take_55 1 rfl ?_
        obtain ⟨o8, h⟩ := h
        refine j_lald E kb7 (by rw [lb7]; exact o8) dX7_take_56 ?_
        refine j_topl (fun x9 ex9 => ?_)
        have h := h x9 ex9
        refine j_lstore_n E 2 [(2, .long x9), (0, .ref v0), (1, .int v1)] dX7_take_57 rfl (by decide) rfl ?_
        refine j_aload_n E dX7_take_58 1 rfl ?_
        obtain ⟨b10, eb10, kb10, lb10⟩ := sh_f hZ kv0 (j := 4) (k := 14) (m := 3) rfl
        have h := h b10 eb10
        refine j_getr E 7 4 rfl rfl (by decide) (by decide) (iw iT_7) rfl rfl (tw W_46) kv0 eb10 dX7_take_59 ?_
        refine j_iload_n E dX7_take_62 2 rfl ?_
        refine j_dup2_11 E dX7_take_63 rfl rfl ?_
        obtain ⟨o11, h⟩ := h
        refine j_iald E kb10 (by rw [lb10]; exact o11) dX7_take_64 ?_
        refine j_iconst E (v := 1) dX7_take_65 (by decide) ?_
        refine j_iadd E dX7_take_66 ?_
        obtain ⟨o12, h⟩ := h
        refine j_iast E kb10 (by rw [lb10]; exact o12) dX7_take_67 ?_
        refine j_nmI (fun I13 eI13 => ?_)
        have h := h I13 eI13
        refine j_aload_n E dX7_take_68 1 rfl ?_
        obtain ⟨b14, eb14, kb14, lb14⟩ := sh_f hZ kv0 (j := 4) (k := 14) (m := 3) rfl
        have h := h b14 eb14
        refine j_getr E 7 4 rfl rfl (by decide) (by decide) (iw iT_7) rfl rfl (tw W_46) kv0 eb14 dX7_take_69 ?_
        refine j_iload_n E dX7_take_72 2 rfl ?_
        obtain ⟨o15, h⟩ := h
        refine j_iald E kb14 (by rw [lb14]; exact o15) dX7_take_73 ?_
        refine j_topi (fun x16 ex16 => ?_)
        have h := h x16 ex16
        refine j_istore E 4 [(4, .int x16), (2, .long x9), (0, .ref v0), (1, .int v1)] dX7_take_74 (by decide) rfl ?_
        refine j_aload_n E dX7_take_76 2 rfl ?_
        obtain ⟨b17, eb17, kb17, lb17⟩ := sh_f hZ kv0 (j := 7) (k := 15) (m := 3) rfl
        have h := h b17 eb17
        refine j_getr E 7 7 rfl rfl (by decide) (by decide) (iw iT_7) rfl rfl (tw W_49) kv0 eb17 dX7_take_77 ?_
        refine j_iload_n E dX7_take_80 3 rfl ?_
        refine j_iload E dX7_take_81 0 rfl ?_
        refine j_aload_n E dX7_take_83 2 rfl ?_
        obtain ⟨b18, eb18, kb18, lb18⟩ := sh_f hZ kv0 (j := 5) (k := 14) (m := 3) rfl
        have h := h b18 eb18
        refine j_getr E 7 5 rfl rfl (by decide) (by decide) (iw iT_7) rfl rfl (tw W_47) kv0 eb18 dX7_take_84 ?_
        refine j_iload_n E dX7_take_87 3 rfl ?_
        obtain ⟨o19, h⟩ := h
        refine j_iald E kb18 (by rw [lb18]; exact o19) dX7_take_88 ?_
        refine j_icmp_ge E 119 dX7_take_89 (by decide) (fun c20 => ?_) (fun c20 => ?_)
        · have h := h.1 c20
          refine j_sub [2, 1] rfl ?_
          exact m_X7_take_b119 E hZ  v0 x9 b17 v1 I13 L kv0 kb17 h
        · have h := h.2 c20
          refine j_iload E dX7_take_92 0 rfl ?_
          refine j_aload_n E dX7_take_94 2 rfl ?_
          obtain ⟨b21, eb21, kb21⟩ := sh_o hZ kv0 (j := 0) (k := 15) rfl
          have h := h b21 eb21
          refine j_getr E 7 0 rfl rfl (by decide) (by decide) (iw iT_7) rfl rfl (tw W_14) kv0 eb21 dX7_take_95 ?_
          refine j_alen15 E kb21 rfl dX7_take_98 ?_
          refine j_icmp_ge E 119 dX7_take_99 (by decide) (fun c22 => ?_) (fun c22 => ?_)
          · have h := h.1 c22
            refine j_sub [2, 1] rfl ?_
            exact m_X7_take_b119 E hZ  v0 x9 b17 v1 I13 L kv0 kb17 h
          · have h := h.2 c22
            refine j_aload_n E dX7_take_102 2 rfl ?_
            obtain ⟨b23, eb23, kb23⟩ := sh_o hZ kv0 (j := 0) (k := 15) rfl
            have h := h b23 eb23
            refine j_getr E 7 0 rfl rfl (by decide) (by decide) (iw iT_7) rfl rfl (tw W_14) kv0 eb23 dX7_take_103 ?_
            refine j_iload E dX7_take_106 0 rfl ?_
            obtain ⟨o24, h⟩ := h
            refine j_lald E kb23 o24 dX7_take_108 ?_
            refine j_aload_n E dX7_take_109 2 rfl ?_
            obtain ⟨b25, eb25, kb25, lb25⟩ := sh_f hZ kv0 (j := 6) (k := 15) (m := 3) rfl
            have h := h b25 eb25
            refine j_getr E 7 6 rfl rfl (by decide) (by decide) (iw iT_7) rfl rfl (tw W_48) kv0 eb25 dX7_take_110 ?_
            refine j_iload_n E dX7_take_113 3 rfl ?_
            obtain ⟨o26, h⟩ := h
            refine j_lald E kb25 (by rw [lb25]; exact o26) dX7_take_114 ?_
            refine j_ladd E dX7_take_115 ?_
            refine j_goto E 122 dX7_take_116 (by decide) ?_
            refine j_sub [2, 1] rfl ?_
            exact m_X7_take_b122 E hZ  v0 x9 b17 v1 ((L b23 x16.toNatClampNeg) + (L b25 v1.toNatClampNeg)) I13 L kv0 kb17 h
      · have h := h.2 c6
        refine j_ldc2 E (tw W_61) dX7_take_47 ?_
        exact j_lreturn E ⟨rfl, _, rfl, h⟩ (Nat.zero_le _) (Nat.zero_le _) dX7_take_50
    · have h := h.2 c5
      refine j_aload_n E dX7_take_12 0 rfl ?_
      obtain ⟨b27, eb27, kb27, lb27⟩ := sh_f hZ kv0 (j := 7) (k := 15) (m := 3) rfl
      have h := h b27 eb27
      refine j_getr E 7 7 rfl rfl (by decide) (by decide) (iw iT_7) rfl rfl (tw W_49) kv0 eb27 dX7_take_13 ?_
      refine j_iload_n E dX7_take_16 2 rfl ?_
      obtain ⟨o28, h⟩ := h
      refine j_lald E kb27 (by rw [lb27]; exact o28) dX7_take_17 ?_
      refine j_aload_n E dX7_take_18 0 rfl ?_
      obtain ⟨b29, eb29, kb29, lb29⟩ := sh_f hZ kv0 (j := 7) (k := 15) (m := 3) rfl
      have h := h b29 eb29
      refine j_getr E 7 7 rfl rfl (by decide) (by decide) (iw iT_7) rfl rfl (tw W_49) kv0 eb29 dX7_take_19 ?_
      refine j_iload_n E dX7_take_22 1 rfl ?_
      obtain ⟨o30, h⟩ := h
      refine j_lald E kb29 (by rw [lb29]; exact o30) dX7_take_23 ?_
      refine j_lcmp E dX7_take_24 ?_
      refine j_if_ge E 32 dX7_take_25 (by decide) (fun c31 => ?_) (fun c31 => ?_)
      · have h := h.1 c31
        refine j_iload_n E dX7_take_32 1 rfl ?_
        refine j_sub [0, 2] rfl ?_
        exact m_X7_take_b33 E hZ K4 hK4 v0 v2 v1 I L kv0 h
      · have h := h.2 c31
        refine j_iload_n E dX7_take_28 2 rfl ?_
        refine j_goto E 33 dX7_take_29 (by decide) ?_
        refine j_sub [0, 2] rfl ?_
        exact m_X7_take_b33 E hZ K4 hK4 v0 v2 v2 I L kv0 h
set_option maxRecDepth 100000 in
def f_X7_take (v0 : Nat) (Z : jZ) (I : jI) (L : jL) (Q : Int64 → jI → jL → Prop) : Prop := (∃ m4 : Nat, f_X7_take_L4  Z Q m4 v0 (0 : Int32) (1 : Int32) I L)
set_option maxHeartbeats 4000000 in
set_option maxRecDepth 100000 in
theorem c_X7_take (l : Launch) (D : va_G) (cy : jC) (v0 : Nat) (Z : jZ) (I : jI) (L : jL) (Q : Int64 → jI → jL → Prop) (hZ : SH Z) (kv0 : jk Z v0 7) (h : f_X7_take v0 Z I L Q) : jCt l yX7_take w_X7_take { frames := 0, cells := 0, slots := 0, locals := 0 } D cy [.ref v0] Z I L (rtL Z Q) := by
  refine jCt_of (cc := cX7_take) (maxL := 5) (ret := (some .long)) (by decide +kernel) rfl (Nat.le_of_ble_eq_true rfl) ?_
  intro G eD eY eL E
  subst eD; subst eY; subst eL
  have E : jE G cX7_take RX7 w_X7_take 5 (some .long) { frames := 0, cells := 0, slots := 0, locals := 0 } (rtL Z Q) := E
  show jJ G 5 0 [(0, .ref v0)] [] Z I L 0 0
  refine j_iconst E (v := 0) dX7_take_0 (by decide) ?_
  refine j_istore_n E 1 [(1, .int (0 : Int32)), (0, .ref v0)] dX7_take_1 rfl (by decide) rfl ?_
  refine j_iconst E (v := 1) dX7_take_2 (by decide) ?_
  refine j_istore_n E 2 [(2, .int (1 : Int32)), (1, .int (0 : Int32)), (0, .ref v0)] dX7_take_3 rfl (by decide) rfl ?_
  obtain ⟨n32, h⟩ := h
  refine j_sub [2, 1, 0] rfl ?_
  exact m_X7_take_L4 E hZ  n32 v0 (0 : Int32) (1 : Int32) I L kv0 h
set_option maxRecDepth 100000 in
def f_X11_costIn (v0 : Int64) (Z : jZ) (I : jI) (L : jL) (Q : Int32 → jI → jL → Prop) : Prop := Q (((v0.toUInt64 >>> ((41 : Int32).toInt64.toUInt64 &&& Int64.toUInt64 63)).toInt64).toInt32) I L
set_option maxHeartbeats 4000000 in
set_option maxRecDepth 100000 in
theorem c_X11_costIn (l : Launch) (D : va_G) (cy : jC) (v0 : Int64) (Z : jZ) (I : jI) (L : jL) (Q : Int32 → jI → jL → Prop) (hZ : SH Z)  (h : f_X11_costIn v0 Z I L Q) : jCt l yX11_costIn w_X11_costIn { frames := 0, cells := 0, slots := 0, locals := 0 } D cy [.long v0] Z I L (rtI Z Q) := by
  refine jCt_of (cc := cX11_costIn) (maxL := 2) (ret := (some .int)) (by decide +kernel) rfl (Nat.le_of_ble_eq_true rfl) ?_
  intro G eD eY eL E
  subst eD; subst eY; subst eL
  have E : jE G cX11_costIn RX11 w_X11_costIn 2 (some .int) { frames := 0, cells := 0, slots := 0, locals := 0 } (rtI Z Q) := E
  show jJ G 2 0 [(0, .long v0)] [] Z I L 0 0
  refine j_lload_n E dX11_costIn_0 0 rfl ?_
  refine j_bipush E (v := 41) dX11_costIn_1 (by decide) ?_
  refine j_lushr E dX11_costIn_3 ?_
  refine j_l2i E dX11_costIn_4 ?_
  exact j_ireturn E ⟨rfl, _, rfl, h⟩ (Nat.zero_le _) (Nat.zero_le _) dX11_costIn_5
set_option maxRecDepth 100000 in
def f_X11_effortIn (v0 : Int64) (Z : jZ) (I : jI) (L : jL) (Q : Int32 → jI → jL → Prop) : Prop := Q ((((v0.toUInt64 >>> ((29 : Int32).toInt64.toUInt64 &&& Int64.toUInt64 63)).toInt64).toInt32) &&& (4095 : Int32)) I L
set_option maxHeartbeats 4000000 in
set_option maxRecDepth 100000 in
theorem c_X11_effortIn (l : Launch) (D : va_G) (cy : jC) (v0 : Int64) (Z : jZ) (I : jI) (L : jL) (Q : Int32 → jI → jL → Prop) (hZ : SH Z)  (h : f_X11_effortIn v0 Z I L Q) : jCt l yX11_effortIn w_X11_effortIn { frames := 0, cells := 0, slots := 0, locals := 0 } D cy [.long v0] Z I L (rtI Z Q) := by
  refine jCt_of (cc := cX11_effortIn) (maxL := 2) (ret := (some .int)) (by decide +kernel) rfl (Nat.le_of_ble_eq_true rfl) ?_
  intro G eD eY eL E
  subst eD; subst eY; subst eL
  have E : jE G cX11_effortIn RX11 w_X11_effortIn 2 (some .int) { frames := 0, cells := 0, slots := 0, locals := 0 } (rtI Z Q) := E
  show jJ G 2 0 [(0, .long v0)] [] Z I L 0 0
  refine j_lload_n E dX11_effortIn_0 0 rfl ?_
  refine j_bipush E (v := 29) dX11_effortIn_1 (by decide) ?_
  refine j_lushr E dX11_effortIn_3 ?_
  refine j_l2i E dX11_effortIn_4 ?_
  refine j_sipush E (v := 4095) dX11_effortIn_5 (by decide) ?_
  refine j_iand E dX11_effortIn_8 ?_
  exact j_ireturn E ⟨rfl, _, rfl, h⟩ (Nat.zero_le _) (Nat.zero_le _) dX11_effortIn_9
set_option maxRecDepth 100000 in
def f_X7_keepCheapest_b61 (B : Nat × Nat) (K9 : Nat → Int32 → Int32 → Int32 → Int32 → jZ → jI → jL → Prop) (Q : jZ → jI → jL → Prop) (v0 : Nat) (v1 : Int32) (v3 : Int32) (v4 : Int32) (v5 : Int32) (Z : jZ) (I : jI) (L : jL) : Prop := (∀ x1 : Int32, x1 = v5 + (-1) → K9 v0 v1 v3 v4 x1 Z I L)
set_option maxHeartbeats 4000000 in
set_option maxRecDepth 100000 in
theorem m_X7_keepCheapest_b61 {G : jG} {B : Nat × Nat} {Z0 : jZ} {Q : jZ → jI → jL → Prop} (E : jE G cX7_keepCheapest RX7 w_X7_keepCheapest 8 none (jrm B 3 93 Z0) jRF) (EU : jEU G B Z0 (urtV B Z0 Q)) (K9 : Nat → Int32 → Int32 → Int32 → Int32 → jZ → jI → jL → Prop) (hK9 : ∀ (v0 : Nat) (v1 : Int32) (v3 : Int32) (v4 : Int32) (v5 : Int32) (Z : jZ) (I : jI) (L : jL), SH Z → jext Z0 Z → jle Z0 Z → jin B Z → jk Z v0 7 → K9 v0 v1 v3 v4 v5 Z I L → jJ G 8 9 [(0, .ref v0), (1, .int v1), (3, .int v3), (4, .int v4), (5, .int v5)] [] Z I L (jcz Z - jcz Z0) (jsz Z - jsz Z0)) (v0 : Nat) (v1 : Int32) (v3 : Int32) (v4 : Int32) (v5 : Int32) (Z : jZ) (I : jI) (L : jL) (hZ : SH Z) (hx : jext Z0 Z) (hc : jle Z0 Z) (hb : jin B Z) (kv0 : jk Z v0 7) (h : f_X7_keepCheapest_b61 B K9 Q v0 v1 v3 v4 v5 Z I L) : jJ G 8 61 [(0, .ref v0), (1, .int v1), (3, .int v3), (4, .int v4), (5, .int v5)] [] Z I L (jcz Z - jcz Z0) (jsz Z - jsz Z0) := by
  obtain ⟨x1, ex1⟩ : ∃ y : Int32, y = v5 + (-1) := ⟨_, rfl⟩
  have h := h x1 ex1
  refine j_iinc E x1 [(5, .int x1), (0, .ref v0), (1, .int v1), (3, .int v3), (4, .int v4)] dX7_keepCheapest_61 4 rfl (by rw [ex1]; rfl) (by decide) rfl ?_
  refine j_goto E 9 dX7_keepCheapest_64 (by decide) ?_
  refine j_sub [1, 2, 3, 4, 0] rfl ?_
  exact hK9 v0 v1 v3 v4 x1 Z I L hZ hx hc hb kv0 h
set_option maxRecDepth 100000 in
def f_X7_keepCheapest_L9 (B : Nat × Nat)  (Q : jZ → jI → jL → Prop) : Nat → Nat → Int32 → Int32 → Int32 → Int32 → jZ → jI → jL → Prop
  | 0 => fun _ _ _ _ _ _ _ _ => False
  | n + 1 => fun v0 v1 v3 v4 v5 Z I L => ((v5 ≤ 0 → Q Z I L) ∧ (¬ (v5 ≤ 0) → ((v4 < 0 → Q Z I L) ∧ (¬ (v4 < 0) → (f_X7_take v0 Z I L (fun r10 I6 L7 => (f_X11_costIn r10 Z I6 L7 (fun r17 I13 L14 => ((r17 ≤ v3 → (f_X11_effortIn r10 Z I13 L14 (fun r25 I21 L22 => ((v4 < r25 → f_X7_keepCheapest_b61 B (f_X7_keepCheapest_L9 B Q n) Q v0 v1 v3 v4 v5 Z I21 L22) ∧ (¬ (v4 < r25) → (f_X7_push B v0 v1 r10 Z I21 L22 (fun Z28 I29 L30 => (f_X11_effortIn r10 Z28 I29 L30 (fun r40 I36 L37 => (∀ x41 : Int32, x41 = (r40 - (1 : Int32)) → f_X7_keepCheapest_b61 B (f_X7_keepCheapest_L9 B Q n) Q v0 v1 v3 x41 v5 Z28 I36 L37)))))))))) ∧ (¬ (r17 ≤ v3) → Q Z I13 L14))))))))))
set_option maxHeartbeats 4000000 in
set_option maxRecDepth 100000 in
theorem m_X7_keepCheapest_L9 {G : jG} {Z0 : jZ} {B : Nat × Nat} {Q : jZ → jI → jL → Prop} (E : jE G cX7_keepCheapest RX7 w_X7_keepCheapest 8 none (jrm B 3 93 Z0) jRF) (EU : jEU G B Z0 (urtV B Z0 Q))  : ∀ (n : Nat) (v0 : Nat) (v1 : Int32) (v3 : Int32) (v4 : Int32) (v5 : Int32) (Z : jZ) (I : jI) (L : jL), SH Z → jext Z0 Z → jle Z0 Z → jin B Z → jk Z v0 7 → f_X7_keepCheapest_L9 B  Q n v0 v1 v3 v4 v5 Z I L → jJ G 8 9 [(0, .ref v0), (1, .int v1), (3, .int v3), (4, .int v4), (5, .int v5)] [] Z I L (jcz Z - jcz Z0) (jsz Z - jsz Z0) := by
  intro n
  induction n with
  | zero => intro v0 v1 v3 v4 v5 Z I L _ _ _ _ _ h; exact h.elim
  | succ n ih =>
    intro v0 v1 v3 v4 v5 Z I L hZ hx hc hb kv0 h
    have h : ((v5 ≤ 0 → Q Z I L) ∧ (¬ (v5 ≤ 0) → ((v4 < 0 → Q Z I L) ∧ (¬ (v4 < 0) → (f_X7_take v0 Z I L (fun r10 I6 L7 => (f_X11_costIn r10 Z I6 L7 (fun r17 I13 L14 => ((r17 ≤ v3 → (f_X11_effortIn r10 Z I13 L14 (fun r25 I21 L22 => ((v4 < r25 → f_X7_keepCheapest_b61 B (f_X7_keepCheapest_L9 B Q n) Q v0 v1 v3 v4 v5 Z I21 L22) ∧ (¬ (v4 < r25) → (f_X7_push B v0 v1 r10 Z I21 L22 (fun Z28 I29 L30 => (f_X11_effortIn r10 Z28 I29 L30 (fun r40 I36 L37 => (∀ x41 : Int32, x41 = (r40 - (1 : Int32)) → f_X7_keepCheapest_b61 B (f_X7_keepCheapest_L9 B Q n) Q v0 v1 v3 x41 v5 Z28 I36 L37)))))))))) ∧ (¬ (r17 ≤ v3) → Q Z I13 L14)))))))))) := h
    obtain ⟨K9, eK9⟩ : ∃ K : Nat → Int32 → Int32 → Int32 → Int32 → jZ → jI → jL → Prop, K = f_X7_keepCheapest_L9 B  Q n := ⟨_, rfl⟩
    have hK9 := ih
    clear eK9 K9
    generalize f_X7_keepCheapest_L9 B  Q n = K9 at hK9 h
    refine j_iload E dX7_keepCheapest_9 4 rfl ?_
    refine j_if_le E 67 dX7_keepCheapest_11 (by decide) (fun c2 => ?_) (fun c2 => ?_)
    · have h := h.1 c2
      exact ju_return E EU hc hb ⟨hx, hZ, hb, rfl, h⟩ dX7_keepCheapest_67
    · have h := h.2 c2
      refine j_iload E dX7_keepCheapest_14 3 rfl ?_
      refine j_if_lt E 67 dX7_keepCheapest_16 (by decide) (fun c3 => ?_) (fun c3 => ?_)
      · have h := h.1 c3
        exact ju_return E EU hc hb ⟨hx, hZ, hb, rfl, h⟩ dX7_keepCheapest_67
      · have h := h.2 c3
        refine j_aload_n E dX7_keepCheapest_19 0 rfl ?_
        refine j_callV E [] [] (c_X7_take (gL G) (gD G) (gY G) v0 Z I L _ hZ kv0 h) (gwV W_63 W_64 W_65 W_24 W_62) rfl ⟨rfl, fy_X7_take⟩ ⟨Nat.le_of_ble_eq_true rfl, Nat.le_of_ble_eq_true rfl⟩ (c := 7) rfl (by decide) kv0 rfl rfl (Nat.le_of_ble_eq_true rfl) (ju_kn hb) dX7_keepCheapest_20 (fun v4 Z5 I6 L7 q8 => ?_)
        obtain ⟨rfl, r10, rfl, h⟩ := q8
        show jJ G 8 23 [(0, .ref v0), (1, .int v1), (3, .int v3), (4, .int v4), (5, .int v5)] [.long r10] Z I6 L7 (jcz Z - jcz Z0) (jsz Z - jsz Z0)
        refine j_lstore E 6 [(6, .long r10), (0, .ref v0), (1, .int v1), (3, .int v3), (4, .int v4), (5, .int v5)] dX7_keepCheapest_23 (by decide) rfl ?_
        refine j_lload E dX7_keepCheapest_25 0 rfl ?_
        refine j_callSN E [.long r10] [] (c_X11_costIn (gL G) (gD G) (gY G) r10 Z I6 L7 _ hZ  h) (gwN W_66) rfl (nm_X11_costIn_X7_89) (tw W_40) (tw W_67) fy_X11_costIn ⟨Nat.le_of_ble_eq_true rfl, Nat.le_of_ble_eq_true rfl⟩ rfl rfl (Nat.le_of_ble_eq_true rfl) (ju_kn hb) dX7_keepCheapest_27 (fun v11 Z12 I13 L14 q15 => ?_)
        obtain ⟨rfl, r17, rfl, h⟩ := q15
        show jJ G 8 30 [(6, .long r10), (0, .ref v0), (1, .int v1), (3, .int v3), (4, .int v4), (5, .int v5)] [.int r17] Z I13 L14 (jcz Z - jcz Z0) (jsz Z - jsz Z0)
        refine j_iload_n E dX7_keepCheapest_30 3 rfl ?_
        refine j_icmp_le E 35 dX7_keepCheapest_31 (by decide) (fun c18 => ?_) (fun c18 => ?_)
        · have h := h.1 c18
          refine j_lload E dX7_keepCheapest_35 0 rfl ?_
          refine j_callSN E [.long r10] [] (c_X11_effortIn (gL G) (gD G) (gY G) r10 Z I13 L14 _ hZ  h) (gwN W_68) rfl (nm_X11_effortIn_X7_75) (tw W_40) (tw W_69) fy_X11_effortIn ⟨Nat.le_of_ble_eq_true rfl, Nat.le_of_ble_eq_true rfl⟩ rfl rfl (Nat.le_of_ble_eq_true rfl) (ju_kn hb) dX7_keepCheapest_37 (fun v19 Z20 I21 L22 q23 => ?_)
          obtain ⟨rfl, r25, rfl, h⟩ := q23
          show jJ G 8 40 [(6, .long r10), (0, .ref v0), (1, .int v1), (3, .int v3), (4, .int v4), (5, .int v5)] [.int r25] Z I21 L22 (jcz Z - jcz Z0) (jsz Z - jsz Z0)
          refine j_iload E dX7_keepCheapest_40 4 rfl ?_
          refine j_icmp_gt E 61 dX7_keepCheapest_42 (by decide) (fun c26 => ?_) (fun c26 => ?_)
          · have h := h.1 c26
            refine j_sub [1, 2, 3, 4, 5] rfl ?_
            exact m_X7_keepCheapest_b61 E EU K9 hK9 v0 v1 v3 v4 v5 Z I21 L22 hZ hx hc hb kv0 h
          · have h := h.2 c26
            refine j_aload_n E dX7_keepCheapest_45 1 rfl ?_
            refine j_iload_n E dX7_keepCheapest_46 2 rfl ?_
            refine j_lload E dX7_keepCheapest_47 0 rfl ?_
            refine ju_callV E [.int v1, .long r10] [] (c_X7_push (gL G) (gD G) (gY G) B v0 v1 r10 Z I21 L22 _ hZ hb kv0 h) (gwV W_29 W_30 W_31 W_24 W_28) rfl ⟨rfl, fy_X7_push⟩ ⟨Nat.le_of_ble_eq_true rfl, Nat.le_of_ble_eq_true rfl⟩ (c := 7) rfl (by decide) kv0 rfl rfl (Nat.le_of_ble_eq_true rfl) (ju_f hc hb) dX7_keepCheapest_49 (fun v27 Z28 I29 L30 q31 j32 => ?_)
            refine ju_next hc j32 ?_
            have hc := jle_trans hc j32
            obtain ⟨yZ28, hZ28, hbZ28, rfl, h⟩ := q31
            have hZ := hZ28
            have hx : jext Z0 Z28 := jext_trans hx yZ28
            have hb := hbZ28
            have k33 := (yZ28 _ _ kv0).1
            show jJ G 8 52 [(6, .long r10), (0, .ref v0), (1, .int v1), (3, .int v3), (4, .int v4), (5, .int v5)] [] Z28 I29 L30 (jcz Z28 - jcz Z0) (jsz Z28 - jsz Z0)
            refine j_lload E dX7_keepCheapest_52 0 rfl ?_
            refine j_callSN E [.long r10] [] (c_X11_effortIn (gL G) (gD G) (gY G) r10 Z28 I29 L30 _ hZ  h) (gwN W_68) rfl (nm_X11_effortIn_X7_75) (tw W_40) (tw W_69) fy_X11_effortIn ⟨Nat.le_of_ble_eq_true rfl, Nat.le_of_ble_eq_true rfl⟩ rfl rfl (Nat.le_of_ble_eq_true rfl) (ju_kn hb) dX7_keepCheapest_54 (fun v34 Z35 I36 L37 q38 => ?_)
            obtain ⟨rfl, r40, rfl, h⟩ := q38
            show jJ G 8 57 [(6, .long r10), (0, .ref v0), (1, .int v1), (3, .int v3), (4, .int v4), (5, .int v5)] [.int r40] Z28 I36 L37 (jcz Z28 - jcz Z0) (jsz Z28 - jsz Z0)
            refine j_iconst E (v := 1) dX7_keepCheapest_57 (by decide) ?_
            refine j_isub E dX7_keepCheapest_58 ?_
            refine j_topi (fun x41 ex41 => ?_)
            have h := h x41 ex41
            refine j_istore E 4 [(4, .int x41), (6, .long r10), (0, .ref v0), (1, .int v1), (3, .int v3), (5, .int v5)] dX7_keepCheapest_59 (by decide) rfl ?_
            refine j_sub [2, 3, 4, 0, 5] rfl ?_
            exact m_X7_keepCheapest_b61 E EU K9 hK9 v0 v1 v3 x41 v5 Z28 I36 L37 hZ hx hc hb k33 h
        · have h := h.2 c18
          exact ju_return E EU hc hb ⟨hx, hZ, hb, rfl, h⟩ dX7_keepCheapest_34
set_option maxRecDepth 100000 in
def f_X7_keepCheapest (B : Nat × Nat) (v0 : Nat) (v1 : Int32) (v2 : Int32) (v3 : Int32) (Z : jZ) (I : jI) (L : jL) (Q : jZ → jI → jL → Prop) : Prop := (∀ x42 : Int32, x42 = (I v0 9) → (∃ m9 : Nat, f_X7_keepCheapest_L9 B  Q m9 v0 v1 v3 v2 x42 Z I L))
set_option maxHeartbeats 4000000 in
set_option maxRecDepth 100000 in
theorem c_X7_keepCheapest (l : Launch) (D : va_G) (cy : jC) (B : Nat × Nat) (v0 : Nat) (v1 : Int32) (v2 : Int32) (v3 : Int32) (Z : jZ) (I : jI) (L : jL) (Q : jZ → jI → jL → Prop) (hZ : SH Z) (hb : jin B Z) (kv0 : jk Z v0 7) (h : f_X7_keepCheapest B v0 v1 v2 v3 Z I L Q) : jCtU l yX7_keepCheapest w_X7_keepCheapest B 3 93 D cy [.ref v0, .int v1, .int v2, .int v3] Z I L (urtV B Z Q) := by
  refine jCtU_of (cc := cX7_keepCheapest) (maxL := 8) (ret := none) (by decide +kernel) rfl (Nat.le_of_ble_eq_true rfl) ?_
  intro G eD eY eL E EU
  subst eD; subst eY; subst eL
  have E : jE G cX7_keepCheapest RX7 w_X7_keepCheapest 8 none (jrm B 3 93 Z) jRF := E
  have hx : jext Z Z := jext_rfl
  have hc : jle Z Z := jle_rfl
  show jJ G 8 0 [(0, .ref v0), (1, .int v1), (2, .int v2), (3, .int v3)] [] Z I L (jcz Z - jcz Z) (jsz Z - jsz Z)
  refine j_iload_n E dX7_keepCheapest_0 2 rfl ?_
  refine j_istore E 4 [(4, .int v2), (0, .ref v0), (1, .int v1), (2, .int v2), (3, .int v3)] dX7_keepCheapest_1 (by decide) rfl ?_
  refine j_aload_n E dX7_keepCheapest_3 1 rfl ?_
  refine j_geti E 7 9 rfl rfl (by decide) (by decide) (iw iT_7) rfl rfl (tw W_1) kv0 dX7_keepCheapest_4 ?_
  refine j_topi (fun x42 ex42 => ?_)
  have h := h x42 ex42
  refine j_istore E 5 [(5, .int x42), (4, .int v2), (0, .ref v0), (1, .int v1), (2, .int v2), (3, .int v3)] dX7_keepCheapest_7 (by decide) rfl ?_
  obtain ⟨n43, h⟩ := h
  refine j_sub [2, 3, 5, 1, 0] rfl ?_
  exact m_X7_keepCheapest_L9 E EU  n43 v0 v1 v3 v2 x42 Z I L hZ hx hc hb kv0 h
set_option maxRecDepth 100000 in
def f_X7_keyAt_b29  (Z : jZ) (Q : Int64 → jI → jL → Prop)  (I : jI) (L : jL) : Prop := Q (9223372036854775807 : Int64) I L
set_option maxHeartbeats 4000000 in
set_option maxRecDepth 100000 in
theorem m_X7_keyAt_b29 {G : jG} {Z : jZ} {Q : Int64 → jI → jL → Prop} (E : jE G cX7_keyAt RX7 w_X7_keyAt 3 (some .long) { frames := 1, cells := 0, slots := 0, locals := 21 } (rtL Z Q)) (hZ : SH Z)   (I : jI) (L : jL)  (h : f_X7_keyAt_b29  Z Q  I L) : jJ G 3 29 [] [] Z I L 0 0 := by
  refine j_ldc2 E (tw W_61) dX7_keyAt_29 ?_
  exact j_lreturn E ⟨rfl, _, rfl, h⟩ (Nat.zero_le _) (Nat.zero_le _) dX7_keyAt_32
set_option maxRecDepth 100000 in
def f_X7_keyAt (v0 : Nat) (v1 : Int32) (v2 : Int32) (Z : jZ) (I : jI) (L : jL) (Q : Int64 → jI → jL → Prop) : Prop := ((v2 < 0 → f_X7_keyAt_b29  Z Q  I L) ∧ (¬ (v2 < 0) → (f_X7_sizeAt v0 v1 Z I L (fun r8 I4 L5 => ((r8 ≤ v2 → f_X7_keyAt_b29  Z Q  I4 L5) ∧ (¬ (r8 ≤ v2) → (∀ b10 : Nat, jr Z v0 0 = some b10 → (∀ b11 : Nat, jr Z v0 1 = some b11 → (vp_in v1 25 ∧ (vp_in ((I4 b11 v1.toNatClampNeg) + v2) (jlen Z b10) ∧ Q (L5 b10 ((I4 b11 v1.toNatClampNeg) + v2).toNatClampNeg) I4 L5))))))))))
set_option maxHeartbeats 4000000 in
set_option maxRecDepth 100000 in
theorem c_X7_keyAt (l : Launch) (D : va_G) (cy : jC) (v0 : Nat) (v1 : Int32) (v2 : Int32) (Z : jZ) (I : jI) (L : jL) (Q : Int64 → jI → jL → Prop) (hZ : SH Z) (kv0 : jk Z v0 7) (h : f_X7_keyAt v0 v1 v2 Z I L Q) : jCt l yX7_keyAt w_X7_keyAt { frames := 1, cells := 0, slots := 0, locals := 21 } D cy [.ref v0, .int v1, .int v2] Z I L (rtL Z Q) := by
  refine jCt_of (cc := cX7_keyAt) (maxL := 3) (ret := (some .long)) (by decide +kernel) rfl (Nat.le_of_ble_eq_true rfl) ?_
  intro G eD eY eL E
  subst eD; subst eY; subst eL
  have E : jE G cX7_keyAt RX7 w_X7_keyAt 3 (some .long) { frames := 1, cells := 0, slots := 0, locals := 21 } (rtL Z Q) := E
  show jJ G 3 0 [(0, .ref v0), (1, .int v1), (2, .int v2)] [] Z I L 0 0
  refine j_iload_n E dX7_keyAt_0 2 rfl ?_
  refine j_if_lt E 29 dX7_keyAt_1 (by decide) (fun c1 => ?_) (fun c1 => ?_)
  · have h := h.1 c1
    refine j_sub [] rfl ?_
    exact m_X7_keyAt_b29 E hZ   I L  h
  · have h := h.2 c1
    refine j_iload_n E dX7_keyAt_4 2 rfl ?_
    refine j_aload_n E dX7_keyAt_5 0 rfl ?_
    refine j_iload_n E dX7_keyAt_6 1 rfl ?_
    refine j_callV E [.int v1] [.int v2] (c_X7_sizeAt (gL G) (gD G) (gY G) v0 v1 Z I L _ hZ kv0 h) (gwV W_43 W_44 W_45 W_24 W_42) rfl ⟨rfl, fy_X7_sizeAt⟩ ⟨by decide, by decide⟩ (c := 7) rfl (by decide) kv0 rfl rfl (Nat.le_of_ble_eq_true rfl) ⟨Nat.zero_le _, Nat.zero_le _⟩ dX7_keyAt_7 (fun v2 Z3 I4 L5 q6 => ?_)
    obtain ⟨rfl, r8, rfl, h⟩ := q6
    show jJ G 3 10 [(0, .ref v0), (1, .int v1), (2, .int v2)] [.int r8, .int v2] Z I4 L5 0 0
    refine j_icmp_ge E 29 dX7_keyAt_10 (by decide) (fun c9 => ?_) (fun c9 => ?_)
    · have h := h.1 c9
      refine j_sub [] rfl ?_
      exact m_X7_keyAt_b29 E hZ   I4 L5  h
    · have h := h.2 c9
      refine j_aload_n E dX7_keyAt_13 0 rfl ?_
      obtain ⟨b10, eb10, kb10⟩ := sh_o hZ kv0 (j := 0) (k := 15) rfl
      have h := h b10 eb10
      refine j_getr E 7 0 rfl rfl (by decide) (by decide) (iw iT_7) rfl rfl (tw W_14) kv0 eb10 dX7_keyAt_14 ?_
      refine j_aload_n E dX7_keyAt_17 0 rfl ?_
      obtain ⟨b11, eb11, kb11, lb11⟩ := sh_f hZ kv0 (j := 1) (k := 14) (m := 25) rfl
      have h := h b11 eb11
      refine j_getr E 7 1 rfl rfl (by decide) (by decide) (iw iT_7) rfl rfl (tw W_2) kv0 eb11 dX7_keyAt_18 ?_
      refine j_iload_n E dX7_keyAt_21 1 rfl ?_
      obtain ⟨o12, h⟩ := h
      refine j_iald E kb11 (by rw [lb11]; exact o12) dX7_keyAt_22 ?_
      refine j_iload_n E dX7_keyAt_23 2 rfl ?_
      refine j_iadd E dX7_keyAt_24 ?_
      obtain ⟨o13, h⟩ := h
      refine j_lald E kb10 o13 dX7_keyAt_25 ?_
      refine j_goto E 32 dX7_keyAt_26 (by decide) ?_
      exact j_lreturn E ⟨rfl, _, rfl, h⟩ (Nat.zero_le _) (Nat.zero_le _) dX7_keyAt_32
set_option maxRecDepth 100000 in
def f_X0_easiest_L13 (B : Nat × Nat)  (Q : Int64 → jZ → jI → jL → Prop) : Nat → Nat → Nat → Int32 → jZ → jI → jL → Prop
  | 0 => fun _ _ _ _ _ _ => False
  | n + 1 => fun v0 v1 v2 Z I L => (((I v1 15) < v2 → (∀ b2 : Nat, jr Z v0 0 = some b2 → (∀ b3 : Nat, jr Z v0 0 = some b3 → (f_X7_sizeAt b3 (I v1 15) Z I L (fun r10 I6 L7 => (f_X7_keyAt b2 (I v1 15) (r10 - (1 : Int32)) Z I6 L7 (fun r17 I13 L14 => Q r17 Z I13 L14))))))) ∧ (¬ ((I v1 15) < v2) → (∀ b18 : Nat, jr Z v0 0 = some b18 → (f_X6_feed v1 b18 v2 (-1 : Int64) (-1 : Int32) Z I L (fun I21 L22 => (∀ b25 : Nat, jr Z v0 0 = some b25 → (∀ b26 : Nat, jr Z v1 7 = some b26 → (vp_in v2 25 ∧ (f_X7_keepCheapest B b25 v2 ((999 : Int32) - (I21 b26 v2.toNatClampNeg)) (I21 v1 2) Z I21 L22 (fun Z29 I30 L31 => (∀ x36 : Int32, x36 = v2 + 1 → (f_X0_easiest_L13 B Q n) v0 v1 x36 Z29 I30 L31)))))))))))
set_option maxHeartbeats 4000000 in
set_option maxRecDepth 100000 in
theorem m_X0_easiest_L13 {G : jG} {Z0 : jZ} {B : Nat × Nat} {Q : Int64 → jZ → jI → jL → Prop} (E : jE G cX0_easiest RX0 w_X0_easiest 3 (some .long) (jrm B 4 120 Z0) jRF) (EU : jEU G B Z0 (urtL B Z0 Q))  : ∀ (n : Nat) (v0 : Nat) (v1 : Nat) (v2 : Int32) (Z : jZ) (I : jI) (L : jL), SH Z → jext Z0 Z → jle Z0 Z → jin B Z → jk Z v0 0 → jk Z v1 6 → f_X0_easiest_L13 B  Q n v0 v1 v2 Z I L → jJ G 3 13 [(0, .ref v0), (1, .ref v1), (2, .int v2)] [] Z I L (jcz Z - jcz Z0) (jsz Z - jsz Z0) := by
  intro n
  induction n with
  | zero => intro v0 v1 v2 Z I L _ _ _ _ _ _ h; exact h.elim
  | succ n ih =>
    intro v0 v1 v2 Z I L hZ hx hc hb kv0 kv1 h
    have h : (((I v1 15) < v2 → (∀ b2 : Nat, jr Z v0 0 = some b2 → (∀ b3 : Nat, jr Z v0 0 = some b3 → (f_X7_sizeAt b3 (I v1 15) Z I L (fun r10 I6 L7 => (f_X7_keyAt b2 (I v1 15) (r10 - (1 : Int32)) Z I6 L7 (fun r17 I13 L14 => Q r17 Z I13 L14))))))) ∧ (¬ ((I v1 15) < v2) → (∀ b18 : Nat, jr Z v0 0 = some b18 → (f_X6_feed v1 b18 v2 (-1 : Int64) (-1 : Int32) Z I L (fun I21 L22 => (∀ b25 : Nat, jr Z v0 0 = some b25 → (∀ b26 : Nat, jr Z v1 7 = some b26 → (vp_in v2 25 ∧ (f_X7_keepCheapest B b25 v2 ((999 : Int32) - (I21 b26 v2.toNatClampNeg)) (I21 v1 2) Z I21 L22 (fun Z29 I30 L31 => (∀ x36 : Int32, x36 = v2 + 1 → (f_X0_easiest_L13 B Q n) v0 v1 x36 Z29 I30 L31))))))))))) := h
    obtain ⟨K13, eK13⟩ : ∃ K : Nat → Nat → Int32 → jZ → jI → jL → Prop, K = f_X0_easiest_L13 B  Q n := ⟨_, rfl⟩
    have hK13 := ih
    clear eK13 K13
    generalize f_X0_easiest_L13 B  Q n = K13 at hK13 h
    refine j_iload_n E dX0_easiest_13 2 rfl ?_
    refine j_aload_n E dX0_easiest_14 1 rfl ?_
    refine j_getiN E 6 15 rfl rfl (by decide) (by decide) (iw iT_6) rfl rfl (nw_6_15_X0_32) kv1 dX0_easiest_15 ?_
    refine j_icmp_gt E 62 dX0_easiest_18 (by decide) (fun c1 => ?_) (fun c1 => ?_)
    · have h := h.1 c1
      refine j_aload_n E dX0_easiest_62 0 rfl ?_
      obtain ⟨b2, eb2, kb2⟩ := sh_o hZ kv0 (j := 0) (k := 7) rfl
      have h := h b2 eb2
      refine j_getr E 0 0 rfl rfl (by decide) (by decide) (iw iT_0) rfl rfl (tw W_70) kv0 eb2 dX0_easiest_63 ?_
      refine j_aload_n E dX0_easiest_66 1 rfl ?_
      refine j_getiN E 6 15 rfl rfl (by decide) (by decide) (iw iT_6) rfl rfl (nw_6_15_X0_32) kv1 dX0_easiest_67 ?_
      refine j_aload_n E dX0_easiest_70 0 rfl ?_
      obtain ⟨b3, eb3, kb3⟩ := sh_o hZ kv0 (j := 0) (k := 7) rfl
      have h := h b3 eb3
      refine j_getr E 0 0 rfl rfl (by decide) (by decide) (iw iT_0) rfl rfl (tw W_70) kv0 eb3 dX0_easiest_71 ?_
      refine j_aload_n E dX0_easiest_74 1 rfl ?_
      refine j_getiN E 6 15 rfl rfl (by decide) (by decide) (iw iT_6) rfl rfl (nw_6_15_X0_32) kv1 dX0_easiest_75 ?_
      refine j_callV E [.int (I v1 15)] [.int (I v1 15), .ref b2] (c_X7_sizeAt (gL G) (gD G) (gY G) b3 (I v1 15) Z I L _ hZ kb3 h) (gwV W_71 W_44 W_45 W_24 W_42) rfl ⟨rfl, fy_X7_sizeAt⟩ ⟨Nat.le_of_ble_eq_true rfl, Nat.le_of_ble_eq_true rfl⟩ (c := 7) rfl (by decide) kb3 rfl rfl (Nat.le_of_ble_eq_true rfl) (ju_kn hb) dX0_easiest_78 (fun v4 Z5 I6 L7 q8 => ?_)
      obtain ⟨rfl, r10, rfl, h⟩ := q8
      show jJ G 3 81 [(0, .ref v0), (1, .ref v1), (2, .int v2)] [.int r10, .int (I v1 15), .ref b2] Z I6 L7 (jcz Z - jcz Z0) (jsz Z - jsz Z0)
      refine j_iconst E (v := 1) dX0_easiest_81 (by decide) ?_
      refine j_isub E dX0_easiest_82 ?_
      refine j_callV E [.int (I v1 15), .int (r10 - (1 : Int32))] [] (c_X7_keyAt (gL G) (gD G) (gY G) b2 (I v1 15) (r10 - (1 : Int32)) Z I6 L7 _ hZ kb2 h) (gwV W_73 W_74 W_75 W_24 W_72) rfl ⟨rfl, fy_X7_keyAt⟩ ⟨Nat.le_of_ble_eq_true rfl, Nat.le_of_ble_eq_true rfl⟩ (c := 7) rfl (by decide) kb2 rfl rfl (Nat.le_of_ble_eq_true rfl) (ju_kn hb) dX0_easiest_83 (fun v11 Z12 I13 L14 q15 => ?_)
      obtain ⟨rfl, r17, rfl, h⟩ := q15
      show jJ G 3 86 [(0, .ref v0), (1, .ref v1), (2, .int v2)] [.long r17] Z I13 L14 (jcz Z - jcz Z0) (jsz Z - jsz Z0)
      exact ju_lreturn E EU hc hb ⟨hx, hZ, hb, _, rfl, h⟩ dX0_easiest_86
    · have h := h.2 c1
      refine j_aload_n E dX0_easiest_21 1 rfl ?_
      refine j_aload_n E dX0_easiest_22 0 rfl ?_
      obtain ⟨b18, eb18, kb18⟩ := sh_o hZ kv0 (j := 0) (k := 7) rfl
      have h := h b18 eb18
      refine j_getr E 0 0 rfl rfl (by decide) (by decide) (iw iT_0) rfl rfl (tw W_70) kv0 eb18 dX0_easiest_23 ?_
      refine j_iload_n E dX0_easiest_26 2 rfl ?_
      refine j_ldc2 E (tw W_76) dX0_easiest_27 ?_
      refine j_iconst E (v := -1) dX0_easiest_30 (by decide) ?_
      refine j_callV E [.ref b18, .int v2, .long (-1 : Int64), .int (-1 : Int32)] [] (c_X6_feed (gL G) (gD G) (gY G) v1 b18 v2 (-1 : Int64) (-1 : Int32) Z I L _ hZ kv1 kb18 h) (gwV W_78 W_79 W_80 W_33 W_77) rfl ⟨rfl, fy_X6_feed⟩ ⟨Nat.le_of_ble_eq_true rfl, Nat.le_of_ble_eq_true rfl⟩ (c := 6) rfl (by decide) kv1 rfl rfl (Nat.le_of_ble_eq_true rfl) (ju_kn hb) dX0_easiest_31 (fun v19 Z20 I21 L22 q23 => ?_)
      obtain ⟨rfl, rfl, h⟩ := q23
      show jJ G 3 34 [(0, .ref v0), (1, .ref v1), (2, .int v2)] [] Z I21 L22 (jcz Z - jcz Z0) (jsz Z - jsz Z0)
      refine j_aload_n E dX0_easiest_34 0 rfl ?_
      obtain ⟨b25, eb25, kb25⟩ := sh_o hZ kv0 (j := 0) (k := 7) rfl
      have h := h b25 eb25
      refine j_getr E 0 0 rfl rfl (by decide) (by decide) (iw iT_0) rfl rfl (tw W_70) kv0 eb25 dX0_easiest_35 ?_
      refine j_iload_n E dX0_easiest_38 2 rfl ?_
      refine j_sipush E (v := 999) dX0_easiest_39 (by decide) ?_
      refine j_aload_n E dX0_easiest_42 1 rfl ?_
      obtain ⟨b26, eb26, kb26, lb26⟩ := sh_f hZ kv1 (j := 7) (k := 14) (m := 25) rfl
      have h := h b26 eb26
      refine j_getrN E 6 7 rfl rfl (by decide) (by decide) (iw iT_6) rfl rfl (nw_6_7_X0_44) kv1 eb26 dX0_easiest_43 ?_
      refine j_iload_n E dX0_easiest_46 2 rfl ?_
      obtain ⟨o27, h⟩ := h
      refine j_iald E kb26 (by rw [lb26]; exact o27) dX0_easiest_47 ?_
      refine j_isub E dX0_easiest_48 ?_
      refine j_aload_n E dX0_easiest_49 1 rfl ?_
      refine j_getiN E 6 2 rfl rfl (by decide) (by decide) (iw iT_6) rfl rfl (nw_6_2_X0_48) kv1 dX0_easiest_50 ?_
      refine ju_callV E [.int v2, .int ((999 : Int32) - (I21 b26 v2.toNatClampNeg)), .int (I21 v1 2)] [] (c_X7_keepCheapest (gL G) (gD G) (gY G) B b25 v2 ((999 : Int32) - (I21 b26 v2.toNatClampNeg)) (I21 v1 2) Z I21 L22 _ hZ hb kb25 h) (gwV W_82 W_83 W_84 W_24 W_81) rfl ⟨rfl, fy_X7_keepCheapest⟩ ⟨Nat.le_of_ble_eq_true rfl, Nat.le_of_ble_eq_true rfl⟩ (c := 7) rfl (by decide) kb25 rfl rfl (Nat.le_of_ble_eq_true rfl) (ju_f hc hb) dX0_easiest_53 (fun v28 Z29 I30 L31 q32 j33 => ?_)
      refine ju_next hc j33 ?_
      have hc := jle_trans hc j33
      obtain ⟨yZ29, hZ29, hbZ29, rfl, h⟩ := q32
      have hZ := hZ29
      have hx : jext Z0 Z29 := jext_trans hx yZ29
      have hb := hbZ29
      have k34 := (yZ29 _ _ kv0).1
      have k35 := (yZ29 _ _ kv1).1
      show jJ G 3 56 [(0, .ref v0), (1, .ref v1), (2, .int v2)] [] Z29 I30 L31 (jcz Z29 - jcz Z0) (jsz Z29 - jsz Z0)
      obtain ⟨x36, ex36⟩ : ∃ y : Int32, y = v2 + 1 := ⟨_, rfl⟩
      have h := h x36 ex36
      refine j_iinc E x36 [(2, .int x36), (0, .ref v0), (1, .ref v1)] dX0_easiest_56 2 rfl (by rw [ex36]; rfl) (by decide) rfl ?_
      refine j_goto E 13 dX0_easiest_59 (by decide) ?_
      refine j_sub [1, 2, 0] rfl ?_
      exact hK13 v0 v1 x36 Z29 I30 L31 hZ hx hc hb k34 k35 h
set_option maxRecDepth 100000 in
def f_X0_easiest (B : Nat × Nat) (v0 : Nat) (v1 : Nat) (Z : jZ) (I : jI) (L : jL) (Q : Int64 → jZ → jI → jL → Prop) : Prop := (∀ b37 : Nat, jr Z v0 0 = some b37 → (f_X7_begin B b37 (0 : Int32) (16777215 : Int64) Z I L (fun Z39 I40 L41 => (∃ m13 : Nat, f_X0_easiest_L13 B  Q m13 v0 v1 (1 : Int32) Z39 I40 L41))))
set_option maxHeartbeats 4000000 in
set_option maxRecDepth 100000 in
theorem c_X0_easiest (l : Launch) (D : va_G) (cy : jC) (B : Nat × Nat) (v0 : Nat) (v1 : Nat) (Z : jZ) (I : jI) (L : jL) (Q : Int64 → jZ → jI → jL → Prop) (hZ : SH Z) (hb : jin B Z) (kv0 : jk Z v0 0) (kv1 : jk Z v1 6) (h : f_X0_easiest B v0 v1 Z I L Q) : jCtU l yX0_easiest w_X0_easiest B 4 120 D cy [.ref v0, .ref v1] Z I L (urtL B Z Q) := by
  refine jCtU_of (cc := cX0_easiest) (maxL := 3) (ret := (some .long)) (by decide +kernel) rfl (Nat.le_of_ble_eq_true rfl) ?_
  intro G eD eY eL E EU
  subst eD; subst eY; subst eL
  have E : jE G cX0_easiest RX0 w_X0_easiest 3 (some .long) (jrm B 4 120 Z) jRF := E
  have hx : jext Z Z := jext_rfl
  have hc : jle Z Z := jle_rfl
  show jJ G 3 0 [(0, .ref v0), (1, .ref v1)] [] Z I L (jcz Z - jcz Z) (jsz Z - jsz Z)
  refine j_aload_n E dX0_easiest_0 0 rfl ?_
  obtain ⟨b37, eb37, kb37⟩ := sh_o hZ kv0 (j := 0) (k := 7) rfl
  have h := h b37 eb37
  refine j_getr E 0 0 rfl rfl (by decide) (by decide) (iw iT_0) rfl rfl (tw W_70) kv0 eb37 dX0_easiest_1 ?_
  refine j_iconst E (v := 0) dX0_easiest_4 (by decide) ?_
  refine j_ldc2 E (tw W_85) dX0_easiest_5 ?_
  refine ju_callV E [.int (0 : Int32), .long (16777215 : Int64)] [] (c_X7_begin (gL G) (gD G) (gY G) B b37 (0 : Int32) (16777215 : Int64) Z I L _ hZ hb kb37 h) (gwV W_87 W_88 W_89 W_24 W_86) rfl ⟨rfl, fy_X7_begin⟩ ⟨Nat.le_of_ble_eq_true rfl, Nat.le_of_ble_eq_true rfl⟩ (c := 7) rfl (by decide) kb37 rfl rfl (Nat.le_of_ble_eq_true rfl) (ju_f hc hb) dX0_easiest_8 (fun v38 Z39 I40 L41 q42 j43 => ?_)
  refine ju_next hc j43 ?_
  have hc := jle_trans hc j43
  obtain ⟨yZ39, hZ39, hbZ39, rfl, h⟩ := q42
  have hZ := hZ39
  have hx : jext Z Z39 := jext_trans hx yZ39
  have hb := hbZ39
  have k44 := (yZ39 _ _ kv0).1
  have k45 := (yZ39 _ _ kv1).1
  show jJ G 3 11 [(0, .ref v0), (1, .ref v1)] [] Z39 I40 L41 (jcz Z39 - jcz Z) (jsz Z39 - jsz Z)
  refine j_iconst E (v := 1) dX0_easiest_11 (by decide) ?_
  refine j_istore_n E 2 [(2, .int (1 : Int32)), (0, .ref v0), (1, .ref v1)] dX0_easiest_12 rfl (by decide) rfl ?_
  obtain ⟨n46, h⟩ := h
  refine j_sub [1, 2, 0] rfl ?_
  exact m_X0_easiest_L13 E EU  n46 v0 v1 (1 : Int32) Z39 I40 L41 hZ hx hc hb k44 k45 h
set_option maxRecDepth 100000 in
def f_X7_keepEachCost_b67 (B : Nat × Nat) (K9 : Nat → Int32 → Int32 → Int32 → Int32 → Int32 → jZ → jI → jL → Prop) (Q : jZ → jI → jL → Prop) (v0 : Nat) (v1 : Int32) (v2 : Int32) (v3 : Int32) (v4 : Int32) (v5 : Int32) (Z : jZ) (I : jI) (L : jL) : Prop := (∀ x1 : Int32, x1 = v5 + (-1) → K9 v0 v1 v2 v3 v4 x1 Z I L)
set_option maxHeartbeats 4000000 in
set_option maxRecDepth 100000 in
theorem m_X7_keepEachCost_b67 {G : jG} {B : Nat × Nat} {Z0 : jZ} {Q : jZ → jI → jL → Prop} (E : jE G cX7_keepEachCost RX7 w_X7_keepEachCost 8 none (jrm B 3 93 Z0) jRF) (EU : jEU G B Z0 (urtV B Z0 Q)) (K9 : Nat → Int32 → Int32 → Int32 → Int32 → Int32 → jZ → jI → jL → Prop) (hK9 : ∀ (v0 : Nat) (v1 : Int32) (v2 : Int32) (v3 : Int32) (v4 : Int32) (v5 : Int32) (Z : jZ) (I : jI) (L : jL), SH Z → jext Z0 Z → jle Z0 Z → jin B Z → jk Z v0 7 → K9 v0 v1 v2 v3 v4 v5 Z I L → jJ G 8 9 [(0, .ref v0), (1, .int v1), (2, .int v2), (3, .int v3), (4, .int v4), (5, .int v5)] [] Z I L (jcz Z - jcz Z0) (jsz Z - jsz Z0)) (v0 : Nat) (v1 : Int32) (v2 : Int32) (v3 : Int32) (v4 : Int32) (v5 : Int32) (Z : jZ) (I : jI) (L : jL) (hZ : SH Z) (hx : jext Z0 Z) (hc : jle Z0 Z) (hb : jin B Z) (kv0 : jk Z v0 7) (h : f_X7_keepEachCost_b67 B K9 Q v0 v1 v2 v3 v4 v5 Z I L) : jJ G 8 67 [(0, .ref v0), (1, .int v1), (2, .int v2), (3, .int v3), (4, .int v4), (5, .int v5)] [] Z I L (jcz Z - jcz Z0) (jsz Z - jsz Z0) := by
  obtain ⟨x1, ex1⟩ : ∃ y : Int32, y = v5 + (-1) := ⟨_, rfl⟩
  have h := h x1 ex1
  refine j_iinc E x1 [(5, .int x1), (0, .ref v0), (1, .int v1), (2, .int v2), (3, .int v3), (4, .int v4)] dX7_keepEachCost_67 5 rfl (by rw [ex1]; rfl) (by decide) rfl ?_
  refine j_goto E 9 dX7_keepEachCost_70 (by decide) ?_
  refine j_sub [1, 2, 3, 4, 5, 0] rfl ?_
  exact hK9 v0 v1 v2 v3 v4 x1 Z I L hZ hx hc hb kv0 h
set_option maxRecDepth 100000 in
def f_X7_keepEachCost_L9 (B : Nat × Nat)  (Q : jZ → jI → jL → Prop) : Nat → Nat → Int32 → Int32 → Int32 → Int32 → Int32 → jZ → jI → jL → Prop
  | 0 => fun _ _ _ _ _ _ _ _ _ => False
  | n + 1 => fun v0 v1 v2 v3 v4 v5 Z I L => ((v5 ≤ 0 → Q Z I L) ∧ (¬ (v5 ≤ 0) → ((v2 < 0 → Q Z I L) ∧ (¬ (v2 < 0) → (f_X7_take v0 Z I L (fun r10 I6 L7 => (f_X11_costIn r10 Z I6 L7 (fun r17 I13 L14 => ((r17 ≤ v3 → (f_X11_effortIn r10 Z I13 L14 (fun r25 I21 L22 => ((v2 < r25 → f_X7_keepEachCost_b67 B (f_X7_keepEachCost_L9 B Q n) Q v0 v1 v2 v3 v4 v5 Z I21 L22) ∧ (¬ (v2 < r25) → (f_X11_costIn r10 Z I21 L22 (fun r33 I29 L30 => ((r33 = v4 → f_X7_keepEachCost_b67 B (f_X7_keepEachCost_L9 B Q n) Q v0 v1 v2 v3 v4 v5 Z I29 L30) ∧ (¬ (r33 = v4) → (f_X7_push B v0 v1 r10 Z I29 L30 (fun Z36 I37 L38 => (f_X11_costIn r10 Z36 I37 L38 (fun r48 I44 L45 => f_X7_keepEachCost_b67 B (f_X7_keepEachCost_L9 B Q n) Q v0 v1 v2 v3 r48 v5 Z36 I44 L45))))))))))))) ∧ (¬ (r17 ≤ v3) → Q Z I13 L14))))))))))
set_option maxHeartbeats 4000000 in
set_option maxRecDepth 100000 in
theorem m_X7_keepEachCost_L9 {G : jG} {Z0 : jZ} {B : Nat × Nat} {Q : jZ → jI → jL → Prop} (E : jE G cX7_keepEachCost RX7 w_X7_keepEachCost 8 none (jrm B 3 93 Z0) jRF) (EU : jEU G B Z0 (urtV B Z0 Q))  : ∀ (n : Nat) (v0 : Nat) (v1 : Int32) (v2 : Int32) (v3 : Int32) (v4 : Int32) (v5 : Int32) (Z : jZ) (I : jI) (L : jL), SH Z → jext Z0 Z → jle Z0 Z → jin B Z → jk Z v0 7 → f_X7_keepEachCost_L9 B  Q n v0 v1 v2 v3 v4 v5 Z I L → jJ G 8 9 [(0, .ref v0), (1, .int v1), (2, .int v2), (3, .int v3), (4, .int v4), (5, .int v5)] [] Z I L (jcz Z - jcz Z0) (jsz Z - jsz Z0) := by
  intro n
  induction n with
  | zero => intro v0 v1 v2 v3 v4 v5 Z I L _ _ _ _ _ h; exact h.elim
  | succ n ih =>
    intro v0 v1 v2 v3 v4 v5 Z I L hZ hx hc hb kv0 h
    have h : ((v5 ≤ 0 → Q Z I L) ∧ (¬ (v5 ≤ 0) → ((v2 < 0 → Q Z I L) ∧ (¬ (v2 < 0) → (f_X7_take v0 Z I L (fun r10 I6 L7 => (f_X11_costIn r10 Z I6 L7 (fun r17 I13 L14 => ((r17 ≤ v3 → (f_X11_effortIn r10 Z I13 L14 (fun r25 I21 L22 => ((v2 < r25 → f_X7_keepEachCost_b67 B (f_X7_keepEachCost_L9 B Q n) Q v0 v1 v2 v3 v4 v5 Z I21 L22) ∧ (¬ (v2 < r25) → (f_X11_costIn r10 Z I21 L22 (fun r33 I29 L30 => ((r33 = v4 → f_X7_keepEachCost_b67 B (f_X7_keepEachCost_L9 B Q n) Q v0 v1 v2 v3 v4 v5 Z I29 L30) ∧ (¬ (r33 = v4) → (f_X7_push B v0 v1 r10 Z I29 L30 (fun Z36 I37 L38 => (f_X11_costIn r10 Z36 I37 L38 (fun r48 I44 L45 => f_X7_keepEachCost_b67 B (f_X7_keepEachCost_L9 B Q n) Q v0 v1 v2 v3 r48 v5 Z36 I44 L45))))))))))))) ∧ (¬ (r17 ≤ v3) → Q Z I13 L14)))))))))) := h
    obtain ⟨K9, eK9⟩ : ∃ K : Nat → Int32 → Int32 → Int32 → Int32 → Int32 → jZ → jI → jL → Prop, K = f_X7_keepEachCost_L9 B  Q n := ⟨_, rfl⟩
    have hK9 := ih
    clear eK9 K9
    generalize f_X7_keepEachCost_L9 B  Q n = K9 at hK9 h
    refine j_iload E dX7_keepEachCost_9 5 rfl ?_
    refine j_if_le E 73 dX7_keepEachCost_11 (by decide) (fun c2 => ?_) (fun c2 => ?_)
    · have h := h.1 c2
      exact ju_return E EU hc hb ⟨hx, hZ, hb, rfl, h⟩ dX7_keepEachCost_73
    · have h := h.2 c2
      refine j_iload_n E dX7_keepEachCost_14 2 rfl ?_
      refine j_if_lt E 73 dX7_keepEachCost_15 (by decide) (fun c3 => ?_) (fun c3 => ?_)
      · have h := h.1 c3
        exact ju_return E EU hc hb ⟨hx, hZ, hb, rfl, h⟩ dX7_keepEachCost_73
      · have h := h.2 c3
        refine j_aload_n E dX7_keepEachCost_18 0 rfl ?_
        refine j_callV E [] [] (c_X7_take (gL G) (gD G) (gY G) v0 Z I L _ hZ kv0 h) (gwV W_63 W_64 W_65 W_24 W_62) rfl ⟨rfl, fy_X7_take⟩ ⟨Nat.le_of_ble_eq_true rfl, Nat.le_of_ble_eq_true rfl⟩ (c := 7) rfl (by decide) kv0 rfl rfl (Nat.le_of_ble_eq_true rfl) (ju_kn hb) dX7_keepEachCost_19 (fun v4 Z5 I6 L7 q8 => ?_)
        obtain ⟨rfl, r10, rfl, h⟩ := q8
        show jJ G 8 22 [(0, .ref v0), (1, .int v1), (2, .int v2), (3, .int v3), (4, .int v4), (5, .int v5)] [.long r10] Z I6 L7 (jcz Z - jcz Z0) (jsz Z - jsz Z0)
        refine j_lstore E 6 [(6, .long r10), (0, .ref v0), (1, .int v1), (2, .int v2), (3, .int v3), (4, .int v4), (5, .int v5)] dX7_keepEachCost_22 (by decide) rfl ?_
        refine j_lload E dX7_keepEachCost_24 0 rfl ?_
        refine j_callSN E [.long r10] [] (c_X11_costIn (gL G) (gD G) (gY G) r10 Z I6 L7 _ hZ  h) (gwN W_66) rfl (nm_X11_costIn_X7_89) (tw W_40) (tw W_67) fy_X11_costIn ⟨Nat.le_of_ble_eq_true rfl, Nat.le_of_ble_eq_true rfl⟩ rfl rfl (Nat.le_of_ble_eq_true rfl) (ju_kn hb) dX7_keepEachCost_26 (fun v11 Z12 I13 L14 q15 => ?_)
        obtain ⟨rfl, r17, rfl, h⟩ := q15
        show jJ G 8 29 [(6, .long r10), (0, .ref v0), (1, .int v1), (2, .int v2), (3, .int v3), (4, .int v4), (5, .int v5)] [.int r17] Z I13 L14 (jcz Z - jcz Z0) (jsz Z - jsz Z0)
        refine j_iload_n E dX7_keepEachCost_29 4 rfl ?_
        refine j_icmp_le E 34 dX7_keepEachCost_30 (by decide) (fun c18 => ?_) (fun c18 => ?_)
        · have h := h.1 c18
          refine j_lload E dX7_keepEachCost_34 0 rfl ?_
          refine j_callSN E [.long r10] [] (c_X11_effortIn (gL G) (gD G) (gY G) r10 Z I13 L14 _ hZ  h) (gwN W_68) rfl (nm_X11_effortIn_X7_75) (tw W_40) (tw W_69) fy_X11_effortIn ⟨Nat.le_of_ble_eq_true rfl, Nat.le_of_ble_eq_true rfl⟩ rfl rfl (Nat.le_of_ble_eq_true rfl) (ju_kn hb) dX7_keepEachCost_36 (fun v19 Z20 I21 L22 q23 => ?_)
          obtain ⟨rfl, r25, rfl, h⟩ := q23
          show jJ G 8 39 [(6, .long r10), (0, .ref v0), (1, .int v1), (2, .int v2), (3, .int v3), (4, .int v4), (5, .int v5)] [.int r25] Z I21 L22 (jcz Z - jcz Z0) (jsz Z - jsz Z0)
          refine j_iload_n E dX7_keepEachCost_39 3 rfl ?_
          refine j_icmp_gt E 67 dX7_keepEachCost_40 (by decide) (fun c26 => ?_) (fun c26 => ?_)
          · have h := h.1 c26
            refine j_sub [1, 2, 3, 4, 5, 6] rfl ?_
            exact m_X7_keepEachCost_b67 E EU K9 hK9 v0 v1 v2 v3 v4 v5 Z I21 L22 hZ hx hc hb kv0 h
          · have h := h.2 c26
            refine j_lload E dX7_keepEachCost_43 0 rfl ?_
            refine j_callSN E [.long r10] [] (c_X11_costIn (gL G) (gD G) (gY G) r10 Z I21 L22 _ hZ  h) (gwN W_66) rfl (nm_X11_costIn_X7_89) (tw W_40) (tw W_67) fy_X11_costIn ⟨Nat.le_of_ble_eq_true rfl, Nat.le_of_ble_eq_true rfl⟩ rfl rfl (Nat.le_of_ble_eq_true rfl) (ju_kn hb) dX7_keepEachCost_45 (fun v27 Z28 I29 L30 q31 => ?_)
            obtain ⟨rfl, r33, rfl, h⟩ := q31
            show jJ G 8 48 [(6, .long r10), (0, .ref v0), (1, .int v1), (2, .int v2), (3, .int v3), (4, .int v4), (5, .int v5)] [.int r33] Z I29 L30 (jcz Z - jcz Z0) (jsz Z - jsz Z0)
            refine j_iload E dX7_keepEachCost_48 5 rfl ?_
            refine j_icmp_eq E 67 dX7_keepEachCost_50 (by decide) (fun c34 => ?_) (fun c34 => ?_)
            · have h := h.1 c34
              refine j_sub [1, 2, 3, 4, 5, 6] rfl ?_
              exact m_X7_keepEachCost_b67 E EU K9 hK9 v0 v1 v2 v3 v4 v5 Z I29 L30 hZ hx hc hb kv0 h
            · have h := h.2 c34
              refine j_aload_n E dX7_keepEachCost_53 1 rfl ?_
              refine j_iload_n E dX7_keepEachCost_54 2 rfl ?_
              refine j_lload E dX7_keepEachCost_55 0 rfl ?_
              refine ju_callV E [.int v1, .long r10] [] (c_X7_push (gL G) (gD G) (gY G) B v0 v1 r10 Z I29 L30 _ hZ hb kv0 h) (gwV W_29 W_30 W_31 W_24 W_28) rfl ⟨rfl, fy_X7_push⟩ ⟨Nat.le_of_ble_eq_true rfl, Nat.le_of_ble_eq_true rfl⟩ (c := 7) rfl (by decide) kv0 rfl rfl (Nat.le_of_ble_eq_true rfl) (ju_f hc hb) dX7_keepEachCost_57 (fun v35 Z36 I37 L38 q39 j40 => ?_)
              refine ju_next hc j40 ?_
              have hc := jle_trans hc j40
              obtain ⟨yZ36, hZ36, hbZ36, rfl, h⟩ := q39
              have hZ := hZ36
              have hx : jext Z0 Z36 := jext_trans hx yZ36
              have hb := hbZ36
              have k41 := (yZ36 _ _ kv0).1
              show jJ G 8 60 [(6, .long r10), (0, .ref v0), (1, .int v1), (2, .int v2), (3, .int v3), (4, .int v4), (5, .int v5)] [] Z36 I37 L38 (jcz Z36 - jcz Z0) (jsz Z36 - jsz Z0)
              refine j_lload E dX7_keepEachCost_60 0 rfl ?_
              refine j_callSN E [.long r10] [] (c_X11_costIn (gL G) (gD G) (gY G) r10 Z36 I37 L38 _ hZ  h) (gwN W_66) rfl (nm_X11_costIn_X7_89) (tw W_40) (tw W_67) fy_X11_costIn ⟨Nat.le_of_ble_eq_true rfl, Nat.le_of_ble_eq_true rfl⟩ rfl rfl (Nat.le_of_ble_eq_true rfl) (ju_kn hb) dX7_keepEachCost_62 (fun v42 Z43 I44 L45 q46 => ?_)
              obtain ⟨rfl, r48, rfl, h⟩ := q46
              show jJ G 8 65 [(6, .long r10), (0, .ref v0), (1, .int v1), (2, .int v2), (3, .int v3), (4, .int v4), (5, .int v5)] [.int r48] Z36 I44 L45 (jcz Z36 - jcz Z0) (jsz Z36 - jsz Z0)
              refine j_istore E 4 [(4, .int r48), (6, .long r10), (0, .ref v0), (1, .int v1), (2, .int v2), (3, .int v3), (5, .int v5)] dX7_keepEachCost_65 (by decide) rfl ?_
              refine j_sub [2, 3, 4, 5, 0, 6] rfl ?_
              exact m_X7_keepEachCost_b67 E EU K9 hK9 v0 v1 v2 v3 r48 v5 Z36 I44 L45 hZ hx hc hb k41 h
        · have h := h.2 c18
          exact ju_return E EU hc hb ⟨hx, hZ, hb, rfl, h⟩ dX7_keepEachCost_33
set_option maxRecDepth 100000 in
def f_X7_keepEachCost (B : Nat × Nat) (v0 : Nat) (v1 : Int32) (v2 : Int32) (v3 : Int32) (Z : jZ) (I : jI) (L : jL) (Q : jZ → jI → jL → Prop) : Prop := (∀ x49 : Int32, x49 = (I v0 9) → (∃ m9 : Nat, f_X7_keepEachCost_L9 B  Q m9 v0 v1 v2 v3 (-1 : Int32) x49 Z I L))
set_option maxHeartbeats 4000000 in
set_option maxRecDepth 100000 in
theorem c_X7_keepEachCost (l : Launch) (D : va_G) (cy : jC) (B : Nat × Nat) (v0 : Nat) (v1 : Int32) (v2 : Int32) (v3 : Int32) (Z : jZ) (I : jI) (L : jL) (Q : jZ → jI → jL → Prop) (hZ : SH Z) (hb : jin B Z) (kv0 : jk Z v0 7) (h : f_X7_keepEachCost B v0 v1 v2 v3 Z I L Q) : jCtU l yX7_keepEachCost w_X7_keepEachCost B 3 93 D cy [.ref v0, .int v1, .int v2, .int v3] Z I L (urtV B Z Q) := by
  refine jCtU_of (cc := cX7_keepEachCost) (maxL := 8) (ret := none) (by decide +kernel) rfl (Nat.le_of_ble_eq_true rfl) ?_
  intro G eD eY eL E EU
  subst eD; subst eY; subst eL
  have E : jE G cX7_keepEachCost RX7 w_X7_keepEachCost 8 none (jrm B 3 93 Z) jRF := E
  have hx : jext Z Z := jext_rfl
  have hc : jle Z Z := jle_rfl
  show jJ G 8 0 [(0, .ref v0), (1, .int v1), (2, .int v2), (3, .int v3)] [] Z I L (jcz Z - jcz Z) (jsz Z - jsz Z)
  refine j_iconst E (v := -1) dX7_keepEachCost_0 (by decide) ?_
  refine j_istore E 4 [(4, .int (-1 : Int32)), (0, .ref v0), (1, .int v1), (2, .int v2), (3, .int v3)] dX7_keepEachCost_1 (by decide) rfl ?_
  refine j_aload_n E dX7_keepEachCost_3 1 rfl ?_
  refine j_geti E 7 9 rfl rfl (by decide) (by decide) (iw iT_7) rfl rfl (tw W_1) kv0 dX7_keepEachCost_4 ?_
  refine j_topi (fun x49 ex49 => ?_)
  have h := h x49 ex49
  refine j_istore E 5 [(5, .int x49), (4, .int (-1 : Int32)), (0, .ref v0), (1, .int v1), (2, .int v2), (3, .int v3)] dX7_keepEachCost_7 (by decide) rfl ?_
  obtain ⟨n50, h⟩ := h
  refine j_sub [2, 3, 4, 5, 1, 0] rfl ?_
  exact m_X7_keepEachCost_L9 E EU  n50 v0 v1 v2 v3 (-1 : Int32) x49 Z I L hZ hx hc hb kv0 h
set_option maxRecDepth 100000 in
def f_X0_firstAbove_L63 (B : Nat × Nat)  (Q : Int64 → jZ → jI → jL → Prop) : Nat → Nat → Nat → Int32 → Int32 → jZ → jI → jL → Prop
  | 0 => fun _ _ _ _ _ _ _ => False
  | n + 1 => fun v0 v1 v2 v3 Z I L => (∀ b1 : Nat, jr Z v0 0 = some b1 → (f_X7_sizeAt b1 (I v1 15) Z I L (fun r8 I4 L5 => ((r8 ≤ v3 → Q (9223372036854775807 : Int64) Z I4 L5) ∧ (¬ (r8 ≤ v3) → (∀ b10 : Nat, jr Z v0 0 = some b10 → (f_X7_keyAt b10 (I4 v1 15) v3 Z I4 L5 (fun r17 I13 L14 => (f_X11_costIn r17 Z I13 L14 (fun r24 I20 L21 => ((r24 ≤ v2 → (∀ x26 : Int32, x26 = v3 + 1 → (f_X0_firstAbove_L63 B Q n) v0 v1 v2 x26 Z I20 L21)) ∧ (¬ (r24 ≤ v2) → Q r17 Z I20 L21))))))))))))
set_option maxHeartbeats 4000000 in
set_option maxRecDepth 100000 in
theorem m_X0_firstAbove_L63 {G : jG} {Z0 : jZ} {B : Nat × Nat} {Q : Int64 → jZ → jI → jL → Prop} (E : jE G cX0_firstAbove RX0 w_X0_firstAbove 6 (some .long) (jrm B 4 120 Z0) jRF) (EU : jEU G B Z0 (urtL B Z0 Q))  : ∀ (n : Nat) (v0 : Nat) (v1 : Nat) (v2 : Int32) (v3 : Int32) (Z : jZ) (I : jI) (L : jL), SH Z → jext Z0 Z → jle Z0 Z → jin B Z → jk Z v0 0 → jk Z v1 6 → f_X0_firstAbove_L63 B  Q n v0 v1 v2 v3 Z I L → jJ G 6 63 [(0, .ref v0), (1, .ref v1), (2, .int v2), (3, .int v3)] [] Z I L (jcz Z - jcz Z0) (jsz Z - jsz Z0) := by
  intro n
  induction n with
  | zero => intro v0 v1 v2 v3 Z I L _ _ _ _ _ _ h; exact h.elim
  | succ n ih =>
    intro v0 v1 v2 v3 Z I L hZ hx hc hb kv0 kv1 h
    have h : (∀ b1 : Nat, jr Z v0 0 = some b1 → (f_X7_sizeAt b1 (I v1 15) Z I L (fun r8 I4 L5 => ((r8 ≤ v3 → Q (9223372036854775807 : Int64) Z I4 L5) ∧ (¬ (r8 ≤ v3) → (∀ b10 : Nat, jr Z v0 0 = some b10 → (f_X7_keyAt b10 (I4 v1 15) v3 Z I4 L5 (fun r17 I13 L14 => (f_X11_costIn r17 Z I13 L14 (fun r24 I20 L21 => ((r24 ≤ v2 → (∀ x26 : Int32, x26 = v3 + 1 → (f_X0_firstAbove_L63 B Q n) v0 v1 v2 x26 Z I20 L21)) ∧ (¬ (r24 ≤ v2) → Q r17 Z I20 L21)))))))))))) := h
    obtain ⟨K63, eK63⟩ : ∃ K : Nat → Nat → Int32 → Int32 → jZ → jI → jL → Prop, K = f_X0_firstAbove_L63 B  Q n := ⟨_, rfl⟩
    have hK63 := ih
    clear eK63 K63
    generalize f_X0_firstAbove_L63 B  Q n = K63 at hK63 h
    refine j_iload_n E dX0_firstAbove_63 3 rfl ?_
    refine j_aload_n E dX0_firstAbove_64 0 rfl ?_
    obtain ⟨b1, eb1, kb1⟩ := sh_o hZ kv0 (j := 0) (k := 7) rfl
    have h := h b1 eb1
    refine j_getr E 0 0 rfl rfl (by decide) (by decide) (iw iT_0) rfl rfl (tw W_70) kv0 eb1 dX0_firstAbove_65 ?_
    refine j_aload_n E dX0_firstAbove_68 1 rfl ?_
    refine j_getiN E 6 15 rfl rfl (by decide) (by decide) (iw iT_6) rfl rfl (nw_6_15_X0_32) kv1 dX0_firstAbove_69 ?_
    refine j_callV E [.int (I v1 15)] [.int v3] (c_X7_sizeAt (gL G) (gD G) (gY G) b1 (I v1 15) Z I L _ hZ kb1 h) (gwV W_71 W_44 W_45 W_24 W_42) rfl ⟨rfl, fy_X7_sizeAt⟩ ⟨Nat.le_of_ble_eq_true rfl, Nat.le_of_ble_eq_true rfl⟩ (c := 7) rfl (by decide) kb1 rfl rfl (Nat.le_of_ble_eq_true rfl) (ju_kn hb) dX0_firstAbove_72 (fun v2 Z3 I4 L5 q6 => ?_)
    obtain ⟨rfl, r8, rfl, h⟩ := q6
    show jJ G 6 75 [(0, .ref v0), (1, .ref v1), (2, .int v2), (3, .int v3)] [.int r8, .int v3] Z I4 L5 (jcz Z - jcz Z0) (jsz Z - jsz Z0)
    refine j_icmp_ge E 110 dX0_firstAbove_75 (by decide) (fun c9 => ?_) (fun c9 => ?_)
    · have h := h.1 c9
      refine j_ldc2 E (tw W_90) dX0_firstAbove_110 ?_
      exact ju_lreturn E EU hc hb ⟨hx, hZ, hb, _, rfl, h⟩ dX0_firstAbove_113
    · have h := h.2 c9
      refine j_aload_n E dX0_firstAbove_78 0 rfl ?_
      obtain ⟨b10, eb10, kb10⟩ := sh_o hZ kv0 (j := 0) (k := 7) rfl
      have h := h b10 eb10
      refine j_getr E 0 0 rfl rfl (by decide) (by decide) (iw iT_0) rfl rfl (tw W_70) kv0 eb10 dX0_firstAbove_79 ?_
      refine j_aload_n E dX0_firstAbove_82 1 rfl ?_
      refine j_getiN E 6 15 rfl rfl (by decide) (by decide) (iw iT_6) rfl rfl (nw_6_15_X0_32) kv1 dX0_firstAbove_83 ?_
      refine j_iload_n E dX0_firstAbove_86 3 rfl ?_
      refine j_callV E [.int (I4 v1 15), .int v3] [] (c_X7_keyAt (gL G) (gD G) (gY G) b10 (I4 v1 15) v3 Z I4 L5 _ hZ kb10 h) (gwV W_73 W_74 W_75 W_24 W_72) rfl ⟨rfl, fy_X7_keyAt⟩ ⟨Nat.le_of_ble_eq_true rfl, Nat.le_of_ble_eq_true rfl⟩ (c := 7) rfl (by decide) kb10 rfl rfl (Nat.le_of_ble_eq_true rfl) (ju_kn hb) dX0_firstAbove_87 (fun v11 Z12 I13 L14 q15 => ?_)
      obtain ⟨rfl, r17, rfl, h⟩ := q15
      show jJ G 6 90 [(0, .ref v0), (1, .ref v1), (2, .int v2), (3, .int v3)] [.long r17] Z I13 L14 (jcz Z - jcz Z0) (jsz Z - jsz Z0)
      refine j_lstore E 4 [(4, .long r17), (0, .ref v0), (1, .ref v1), (2, .int v2), (3, .int v3)] dX0_firstAbove_90 (by decide) rfl ?_
      refine j_lload E dX0_firstAbove_92 0 rfl ?_
      refine j_callSN E [.long r17] [] (c_X11_costIn (gL G) (gD G) (gY G) r17 Z I13 L14 _ hZ  h) (gwN W_66) rfl (nm_X11_costIn_X0_71) (tw W_40) (tw W_67) fy_X11_costIn ⟨Nat.le_of_ble_eq_true rfl, Nat.le_of_ble_eq_true rfl⟩ rfl rfl (Nat.le_of_ble_eq_true rfl) (ju_kn hb) dX0_firstAbove_94 (fun v18 Z19 I20 L21 q22 => ?_)
      obtain ⟨rfl, r24, rfl, h⟩ := q22
      show jJ G 6 97 [(4, .long r17), (0, .ref v0), (1, .ref v1), (2, .int v2), (3, .int v3)] [.int r24] Z I20 L21 (jcz Z - jcz Z0) (jsz Z - jsz Z0)
      refine j_iload_n E dX0_firstAbove_97 3 rfl ?_
      refine j_icmp_le E 104 dX0_firstAbove_98 (by decide) (fun c25 => ?_) (fun c25 => ?_)
      · have h := h.1 c25
        obtain ⟨x26, ex26⟩ : ∃ y : Int32, y = v3 + 1 := ⟨_, rfl⟩
        have h := h x26 ex26
        refine j_iinc E x26 [(3, .int x26), (4, .long r17), (0, .ref v0), (1, .ref v1), (2, .int v2)] dX0_firstAbove_104 4 rfl (by rw [ex26]; rfl) (by decide) rfl ?_
        refine j_goto E 63 dX0_firstAbove_107 (by decide) ?_
        refine j_sub [2, 3, 4, 0] rfl ?_
        exact hK63 v0 v1 v2 x26 Z I20 L21 hZ hx hc hb kv0 kv1 h
      · have h := h.2 c25
        refine j_lload E dX0_firstAbove_101 0 rfl ?_
        exact ju_lreturn E EU hc hb ⟨hx, hZ, hb, _, rfl, h⟩ dX0_firstAbove_103
set_option maxRecDepth 100000 in
def f_X0_firstAbove_L11 (B : Nat × Nat)  (Q : Int64 → jZ → jI → jL → Prop) : Nat → Nat → Nat → Int32 → Int32 → jZ → jI → jL → Prop
  | 0 => fun _ _ _ _ _ _ _ => False
  | n + 1 => fun v0 v1 v2 v3 Z I L => (((I v1 15) < v3 → (∃ m63 : Nat, f_X0_firstAbove_L63 B  Q m63 v0 v1 v2 (0 : Int32) Z I L)) ∧ (¬ ((I v1 15) < v3) → (∀ b29 : Nat, jr Z v0 0 = some b29 → (f_X6_feed v1 b29 v3 (-536870912 : Int64) (-1 : Int32) Z I L (fun I32 L33 => (∀ b36 : Nat, jr Z v0 0 = some b36 → (∀ b37 : Nat, jr Z v1 7 = some b37 → (vp_in v3 25 ∧ (f_X7_keepEachCost B b36 v3 ((I32 v1 1) - (I32 b37 v3.toNatClampNeg)) (I32 v1 2) Z I32 L33 (fun Z40 I41 L42 => (∀ x47 : Int32, x47 = v3 + 1 → (f_X0_firstAbove_L11 B Q n) v0 v1 v2 x47 Z40 I41 L42)))))))))))
set_option maxHeartbeats 4000000 in
set_option maxRecDepth 100000 in
theorem m_X0_firstAbove_L11 {G : jG} {Z0 : jZ} {B : Nat × Nat} {Q : Int64 → jZ → jI → jL → Prop} (E : jE G cX0_firstAbove RX0 w_X0_firstAbove 6 (some .long) (jrm B 4 120 Z0) jRF) (EU : jEU G B Z0 (urtL B Z0 Q))  : ∀ (n : Nat) (v0 : Nat) (v1 : Nat) (v2 : Int32) (v3 : Int32) (Z : jZ) (I : jI) (L : jL), SH Z → jext Z0 Z → jle Z0 Z → jin B Z → jk Z v0 0 → jk Z v1 6 → f_X0_firstAbove_L11 B  Q n v0 v1 v2 v3 Z I L → jJ G 6 11 [(0, .ref v0), (1, .ref v1), (2, .int v2), (3, .int v3)] [] Z I L (jcz Z - jcz Z0) (jsz Z - jsz Z0) := by
  intro n
  induction n with
  | zero => intro v0 v1 v2 v3 Z I L _ _ _ _ _ _ h; exact h.elim
  | succ n ih =>
    intro v0 v1 v2 v3 Z I L hZ hx hc hb kv0 kv1 h
    have h : (((I v1 15) < v3 → (∃ m63 : Nat, f_X0_firstAbove_L63 B  Q m63 v0 v1 v2 (0 : Int32) Z I L)) ∧ (¬ ((I v1 15) < v3) → (∀ b29 : Nat, jr Z v0 0 = some b29 → (f_X6_feed v1 b29 v3 (-536870912 : Int64) (-1 : Int32) Z I L (fun I32 L33 => (∀ b36 : Nat, jr Z v0 0 = some b36 → (∀ b37 : Nat, jr Z v1 7 = some b37 → (vp_in v3 25 ∧ (f_X7_keepEachCost B b36 v3 ((I32 v1 1) - (I32 b37 v3.toNatClampNeg)) (I32 v1 2) Z I32 L33 (fun Z40 I41 L42 => (∀ x47 : Int32, x47 = v3 + 1 → (f_X0_firstAbove_L11 B Q n) v0 v1 v2 x47 Z40 I41 L42))))))))))) := h
    obtain ⟨K11, eK11⟩ : ∃ K : Nat → Nat → Int32 → Int32 → jZ → jI → jL → Prop, K = f_X0_firstAbove_L11 B  Q n := ⟨_, rfl⟩
    have hK11 := ih
    clear eK11 K11
    generalize f_X0_firstAbove_L11 B  Q n = K11 at hK11 h
    refine j_iload_n E dX0_firstAbove_11 3 rfl ?_
    refine j_aload_n E dX0_firstAbove_12 1 rfl ?_
    refine j_getiN E 6 15 rfl rfl (by decide) (by decide) (iw iT_6) rfl rfl (nw_6_15_X0_32) kv1 dX0_firstAbove_13 ?_
    refine j_icmp_gt E 61 dX0_firstAbove_16 (by decide) (fun c27 => ?_) (fun c27 => ?_)
    · have h := h.1 c27
      refine j_iconst E (v := 0) dX0_firstAbove_61 (by decide) ?_
      refine j_istore_n E 3 [(3, .int (0 : Int32)), (0, .ref v0), (1, .ref v1), (2, .int v2)] dX0_firstAbove_62 rfl (by decide) rfl ?_
      obtain ⟨n28, h⟩ := h
      refine j_sub [1, 2, 3, 0] rfl ?_
      exact m_X0_firstAbove_L63 E EU  n28 v0 v1 v2 (0 : Int32) Z I L hZ hx hc hb kv0 kv1 h
    · have h := h.2 c27
      refine j_aload_n E dX0_firstAbove_19 1 rfl ?_
      refine j_aload_n E dX0_firstAbove_20 0 rfl ?_
      obtain ⟨b29, eb29, kb29⟩ := sh_o hZ kv0 (j := 0) (k := 7) rfl
      have h := h b29 eb29
      refine j_getr E 0 0 rfl rfl (by decide) (by decide) (iw iT_0) rfl rfl (tw W_70) kv0 eb29 dX0_firstAbove_21 ?_
      refine j_iload_n E dX0_firstAbove_24 3 rfl ?_
      refine j_ldc2 E (tw W_91) dX0_firstAbove_25 ?_
      refine j_iconst E (v := -1) dX0_firstAbove_28 (by decide) ?_
      refine j_callV E [.ref b29, .int v3, .long (-536870912 : Int64), .int (-1 : Int32)] [] (c_X6_feed (gL G) (gD G) (gY G) v1 b29 v3 (-536870912 : Int64) (-1 : Int32) Z I L _ hZ kv1 kb29 h) (gwV W_78 W_79 W_80 W_33 W_77) rfl ⟨rfl, fy_X6_feed⟩ ⟨Nat.le_of_ble_eq_true rfl, Nat.le_of_ble_eq_true rfl⟩ (c := 6) rfl (by decide) kv1 rfl rfl (Nat.le_of_ble_eq_true rfl) (ju_kn hb) dX0_firstAbove_29 (fun v30 Z31 I32 L33 q34 => ?_)
      obtain ⟨rfl, rfl, h⟩ := q34
      show jJ G 6 32 [(0, .ref v0), (1, .ref v1), (2, .int v2), (3, .int v3)] [] Z I32 L33 (jcz Z - jcz Z0) (jsz Z - jsz Z0)
      refine j_aload_n E dX0_firstAbove_32 0 rfl ?_
      obtain ⟨b36, eb36, kb36⟩ := sh_o hZ kv0 (j := 0) (k := 7) rfl
      have h := h b36 eb36
      refine j_getr E 0 0 rfl rfl (by decide) (by decide) (iw iT_0) rfl rfl (tw W_70) kv0 eb36 dX0_firstAbove_33 ?_
      refine j_iload_n E dX0_firstAbove_36 3 rfl ?_
      refine j_aload_n E dX0_firstAbove_37 1 rfl ?_
      refine j_getiN E 6 1 rfl rfl (by decide) (by decide) (iw iT_6) rfl rfl (nw_6_1_X0_65) kv1 dX0_firstAbove_38 ?_
      refine j_aload_n E dX0_firstAbove_41 1 rfl ?_
      obtain ⟨b37, eb37, kb37, lb37⟩ := sh_f hZ kv1 (j := 7) (k := 14) (m := 25) rfl
      have h := h b37 eb37
      refine j_getrN E 6 7 rfl rfl (by decide) (by decide) (iw iT_6) rfl rfl (nw_6_7_X0_44) kv1 eb37 dX0_firstAbove_42 ?_
      refine j_iload_n E dX0_firstAbove_45 3 rfl ?_
      obtain ⟨o38, h⟩ := h
      refine j_iald E kb37 (by rw [lb37]; exact o38) dX0_firstAbove_46 ?_
      refine j_isub E dX0_firstAbove_47 ?_
      refine j_aload_n E dX0_firstAbove_48 1 rfl ?_
      refine j_getiN E 6 2 rfl rfl (by decide) (by decide) (iw iT_6) rfl rfl (nw_6_2_X0_48) kv1 dX0_firstAbove_49 ?_
      refine ju_callV E [.int v3, .int ((I32 v1 1) - (I32 b37 v3.toNatClampNeg)), .int (I32 v1 2)] [] (c_X7_keepEachCost (gL G) (gD G) (gY G) B b36 v3 ((I32 v1 1) - (I32 b37 v3.toNatClampNeg)) (I32 v1 2) Z I32 L33 _ hZ hb kb36 h) (gwV W_93 W_94 W_95 W_24 W_92) rfl ⟨rfl, fy_X7_keepEachCost⟩ ⟨Nat.le_of_ble_eq_true rfl, Nat.le_of_ble_eq_true rfl⟩ (c := 7) rfl (by decide) kb36 rfl rfl (Nat.le_of_ble_eq_true rfl) (ju_f hc hb) dX0_firstAbove_52 (fun v39 Z40 I41 L42 q43 j44 => ?_)
      refine ju_next hc j44 ?_
      have hc := jle_trans hc j44
      obtain ⟨yZ40, hZ40, hbZ40, rfl, h⟩ := q43
      have hZ := hZ40
      have hx : jext Z0 Z40 := jext_trans hx yZ40
      have hb := hbZ40
      have k45 := (yZ40 _ _ kv0).1
      have k46 := (yZ40 _ _ kv1).1
      show jJ G 6 55 [(0, .ref v0), (1, .ref v1), (2, .int v2), (3, .int v3)] [] Z40 I41 L42 (jcz Z40 - jcz Z0) (jsz Z40 - jsz Z0)
      obtain ⟨x47, ex47⟩ : ∃ y : Int32, y = v3 + 1 := ⟨_, rfl⟩
      have h := h x47 ex47
      refine j_iinc E x47 [(3, .int x47), (0, .ref v0), (1, .ref v1), (2, .int v2)] dX0_firstAbove_55 3 rfl (by rw [ex47]; rfl) (by decide) rfl ?_
      refine j_goto E 11 dX0_firstAbove_58 (by decide) ?_
      refine j_sub [1, 2, 3, 0] rfl ?_
      exact hK11 v0 v1 v2 x47 Z40 I41 L42 hZ hx hc hb k45 k46 h
set_option maxRecDepth 100000 in
def f_X0_firstAbove (B : Nat × Nat) (v0 : Nat) (v1 : Nat) (v2 : Int32) (Z : jZ) (I : jI) (L : jL) (Q : Int64 → jZ → jI → jL → Prop) : Prop := (∀ b48 : Nat, jr Z v0 0 = some b48 → (f_X7_begin B b48 (0 : Int32) (0 : Int64) Z I L (fun Z50 I51 L52 => (∃ m11 : Nat, f_X0_firstAbove_L11 B  Q m11 v0 v1 v2 (1 : Int32) Z50 I51 L52))))
set_option maxHeartbeats 4000000 in
set_option maxRecDepth 100000 in
theorem c_X0_firstAbove (l : Launch) (D : va_G) (cy : jC) (B : Nat × Nat) (v0 : Nat) (v1 : Nat) (v2 : Int32) (Z : jZ) (I : jI) (L : jL) (Q : Int64 → jZ → jI → jL → Prop) (hZ : SH Z) (hb : jin B Z) (kv0 : jk Z v0 0) (kv1 : jk Z v1 6) (h : f_X0_firstAbove B v0 v1 v2 Z I L Q) : jCtU l yX0_firstAbove w_X0_firstAbove B 4 120 D cy [.ref v0, .ref v1, .int v2] Z I L (urtL B Z Q) := by
  refine jCtU_of (cc := cX0_firstAbove) (maxL := 6) (ret := (some .long)) (by decide +kernel) rfl (Nat.le_of_ble_eq_true rfl) ?_
  intro G eD eY eL E EU
  subst eD; subst eY; subst eL
  have E : jE G cX0_firstAbove RX0 w_X0_firstAbove 6 (some .long) (jrm B 4 120 Z) jRF := E
  have hx : jext Z Z := jext_rfl
  have hc : jle Z Z := jle_rfl
  show jJ G 6 0 [(0, .ref v0), (1, .ref v1), (2, .int v2)] [] Z I L (jcz Z - jcz Z) (jsz Z - jsz Z)
  refine j_aload_n E dX0_firstAbove_0 0 rfl ?_
  obtain ⟨b48, eb48, kb48⟩ := sh_o hZ kv0 (j := 0) (k := 7) rfl
  have h := h b48 eb48
  refine j_getr E 0 0 rfl rfl (by decide) (by decide) (iw iT_0) rfl rfl (tw W_70) kv0 eb48 dX0_firstAbove_1 ?_
  refine j_iconst E (v := 0) dX0_firstAbove_4 (by decide) ?_
  refine j_lconst E (v := 0) dX0_firstAbove_5 (by decide) ?_
  refine ju_callV E [.int (0 : Int32), .long (0 : Int64)] [] (c_X7_begin (gL G) (gD G) (gY G) B b48 (0 : Int32) (0 : Int64) Z I L _ hZ hb kb48 h) (gwV W_87 W_88 W_89 W_24 W_86) rfl ⟨rfl, fy_X7_begin⟩ ⟨Nat.le_of_ble_eq_true rfl, Nat.le_of_ble_eq_true rfl⟩ (c := 7) rfl (by decide) kb48 rfl rfl (Nat.le_of_ble_eq_true rfl) (ju_f hc hb) dX0_firstAbove_6 (fun v49 Z50 I51 L52 q53 j54 => ?_)
  refine ju_next hc j54 ?_
  have hc := jle_trans hc j54
  obtain ⟨yZ50, hZ50, hbZ50, rfl, h⟩ := q53
  have hZ := hZ50
  have hx : jext Z Z50 := jext_trans hx yZ50
  have hb := hbZ50
  have k55 := (yZ50 _ _ kv0).1
  have k56 := (yZ50 _ _ kv1).1
  show jJ G 6 9 [(0, .ref v0), (1, .ref v1), (2, .int v2)] [] Z50 I51 L52 (jcz Z50 - jcz Z) (jsz Z50 - jsz Z)
  refine j_iconst E (v := 1) dX0_firstAbove_9 (by decide) ?_
  refine j_istore_n E 3 [(3, .int (1 : Int32)), (0, .ref v0), (1, .ref v1), (2, .int v2)] dX0_firstAbove_10 rfl (by decide) rfl ?_
  obtain ⟨n57, h⟩ := h
  refine j_sub [1, 2, 3, 0] rfl ?_
  exact m_X0_firstAbove_L11 E EU  n57 v0 v1 v2 (1 : Int32) Z50 I51 L52 hZ hx hc hb k55 k56 h
set_option maxRecDepth 100000 in
def f_J7_fill_d0a16_L6  (Z : jZ) (Q : jI → jL → Prop) : Nat → Nat → Int64 → Int32 → Int32 → jI → jL → Prop
  | 0 => fun _ _ _ _ _ _ => False
  | n + 1 => fun v0 v1 v3 v4 I L => ((v4 ≤ v3 → Q I L) ∧ (¬ (v4 ≤ v3) → (vp_in v3 (jlen Z v0) ∧ (∀ L3 : jL, L3 = jpL L v0 v3.toNatClampNeg v1 → (∀ x4 : Int32, x4 = v3 + 1 → (f_J7_fill_d0a16_L6 Z Q n) v0 v1 x4 v4 I L3)))))
set_option maxHeartbeats 4000000 in
set_option maxRecDepth 100000 in
theorem m_J7_fill_d0a16_L6 {G : jG} {Z : jZ} {Q : jI → jL → Prop} (E : jE G cJ7_fill_d0a16 RJ7 w_J7_fill_d0a16 5 none { frames := 0, cells := 0, slots := 0, locals := 0 } (rtV Z Q)) (hZ : SH Z)  : ∀ (n : Nat) (v0 : Nat) (v1 : Int64) (v3 : Int32) (v4 : Int32) (I : jI) (L : jL), jk Z v0 15 → f_J7_fill_d0a16_L6  Z Q n v0 v1 v3 v4 I L → jJ G 5 6 [(0, .ref v0), (1, .long v1), (3, .int v3), (4, .int v4)] [] Z I L 0 0 := by
  intro n
  induction n with
  | zero => intro v0 v1 v3 v4 I L _ h; exact h.elim
  | succ n ih =>
    intro v0 v1 v3 v4 I L kv0 h
    have h : ((v4 ≤ v3 → Q I L) ∧ (¬ (v4 ≤ v3) → (vp_in v3 (jlen Z v0) ∧ (∀ L3 : jL, L3 = jpL L v0 v3.toNatClampNeg v1 → (∀ x4 : Int32, x4 = v3 + 1 → (f_J7_fill_d0a16_L6 Z Q n) v0 v1 x4 v4 I L3))))) := h
    obtain ⟨K6, eK6⟩ : ∃ K : Nat → Int64 → Int32 → Int32 → jI → jL → Prop, K = f_J7_fill_d0a16_L6  Z Q n := ⟨_, rfl⟩
    have hK6 := ih
    clear eK6 K6
    generalize f_J7_fill_d0a16_L6  Z Q n = K6 at hK6 h
    refine j_iload_n E dJ7_fill_d0a16_6 2 rfl ?_
    refine j_iload E dJ7_fill_d0a16_7 3 rfl ?_
    refine j_icmp_ge E 22 dJ7_fill_d0a16_9 (by decide) (fun c1 => ?_) (fun c1 => ?_)
    · have h := h.1 c1
      exact j_return E ⟨rfl, rfl, h⟩ (Nat.zero_le _) (Nat.zero_le _) dJ7_fill_d0a16_22
    · have h := h.2 c1
      refine j_aload_n E dJ7_fill_d0a16_12 0 rfl ?_
      refine j_iload_n E dJ7_fill_d0a16_13 2 rfl ?_
      refine j_lload_n E dJ7_fill_d0a16_14 1 rfl ?_
      obtain ⟨o2, h⟩ := h
      refine j_last E kv0 o2 dJ7_fill_d0a16_15 ?_
      refine j_nmL (fun L3 eL3 => ?_)
      have h := h L3 eL3
      obtain ⟨x4, ex4⟩ : ∃ y : Int32, y = v3 + 1 := ⟨_, rfl⟩
      have h := h x4 ex4
      refine j_iinc E x4 [(3, .int x4), (0, .ref v0), (1, .long v1), (4, .int v4)] dJ7_fill_d0a16_16 2 rfl (by rw [ex4]; rfl) (by decide) rfl ?_
      refine j_goto E 6 dJ7_fill_d0a16_19 (by decide) ?_
      refine j_sub [1, 2, 0, 3] rfl ?_
      exact hK6 v0 v1 x4 v4 I L3 kv0 h
set_option maxRecDepth 100000 in
def f_J7_fill_d0a16 (v0 : Nat) (v1 : Int64) (Z : jZ) (I : jI) (L : jL) (Q : jI → jL → Prop) : Prop := (∀ x5 : Int32, x5 = (nI (jlen Z v0)) → (∃ m6 : Nat, f_J7_fill_d0a16_L6  Z Q m6 v0 v1 (0 : Int32) x5 I L))
set_option maxHeartbeats 4000000 in
set_option maxRecDepth 100000 in
theorem c_J7_fill_d0a16 (l : Launch) (D : va_G) (cy : jC) (v0 : Nat) (v1 : Int64) (Z : jZ) (I : jI) (L : jL) (Q : jI → jL → Prop) (hZ : SH Z) (kv0 : jk Z v0 15) (h : f_J7_fill_d0a16 v0 v1 Z I L Q) : jCt l yJ7_fill_d0a16 w_J7_fill_d0a16 { frames := 0, cells := 0, slots := 0, locals := 0 } D cy [.ref v0, .long v1] Z I L (rtV Z Q) := by
  refine jCt_of (cc := cJ7_fill_d0a16) (maxL := 5) (ret := none) (by decide +kernel) rfl (Nat.le_of_ble_eq_true rfl) ?_
  intro G eD eY eL E
  subst eD; subst eY; subst eL
  have E : jE G cJ7_fill_d0a16 RJ7 w_J7_fill_d0a16 5 none { frames := 0, cells := 0, slots := 0, locals := 0 } (rtV Z Q) := E
  show jJ G 5 0 [(0, .ref v0), (1, .long v1)] [] Z I L 0 0
  refine j_iconst E (v := 0) dJ7_fill_d0a16_0 (by decide) ?_
  refine j_istore_n E 3 [(3, .int (0 : Int32)), (0, .ref v0), (1, .long v1)] dJ7_fill_d0a16_1 rfl (by decide) rfl ?_
  refine j_aload_n E dJ7_fill_d0a16_2 1 rfl ?_
  refine j_alen15 E kv0 rfl dJ7_fill_d0a16_3 ?_
  refine j_topi (fun x5 ex5 => ?_)
  have h := h x5 ex5
  refine j_istore E 4 [(4, .int x5), (3, .int (0 : Int32)), (0, .ref v0), (1, .long v1)] dJ7_fill_d0a16_4 (by decide) rfl ?_
  obtain ⟨n6, h⟩ := h
  refine j_sub [2, 3, 1, 0] rfl ?_
  exact m_J7_fill_d0a16_L6 E hZ  n6 v0 v1 (0 : Int32) x5 I L kv0 h
set_option maxRecDepth 100000 in
def f_X0_addReach_b88 (K16 : Nat → Int32 → Int32 → Int32 → Int32 → Int32 → jI → jL → Prop) (Z : jZ) (Q : jI → jL → Prop) (v0 : Nat) (v1 : Int32) (v2 : Int32) (v4 : Int32) (v5 : Int32) (v6 : Int32) (v7 : Int64) (I : jI) (L : jL) : Prop := (∀ b1 : Nat, jr Z v0 1 = some b1 → (vp_in ((v1 * (16 : Int32)) + v6) 400 ∧ (vp_in ((v1 * (16 : Int32)) + v6) 400 ∧ (∀ L4 : jL, L4 = jpL L b1 ((v1 * (16 : Int32)) + v6).toNatClampNeg ((L b1 ((v1 * (16 : Int32)) + v6).toNatClampNeg) ||| v7) → (∀ x5 : Int32, x5 = v6 + (-1) → K16 v0 v1 v2 v4 v5 x5 I L4)))))
set_option maxHeartbeats 4000000 in
set_option maxRecDepth 100000 in
theorem m_X0_addReach_b88 {G : jG} {Z : jZ} {Q : jI → jL → Prop} (E : jE G cX0_addReach RX0 w_X0_addReach 9 none { frames := 0, cells := 0, slots := 0, locals := 0 } (rtV Z Q)) (hZ : SH Z) (K16 : Nat → Int32 → Int32 → Int32 → Int32 → Int32 → jI → jL → Prop) (hK16 : ∀ (v0 : Nat) (v1 : Int32) (v2 : Int32) (v4 : Int32) (v5 : Int32) (v6 : Int32) (I : jI) (L : jL), jk Z v0 0 → K16 v0 v1 v2 v4 v5 v6 I L → jJ G 9 16 [(0, .ref v0), (1, .int v1), (2, .int v2), (4, .int v4), (5, .int v5), (6, .int v6)] [] Z I L 0 0) (v0 : Nat) (v1 : Int32) (v2 : Int32) (v4 : Int32) (v5 : Int32) (v6 : Int32) (v7 : Int64) (I : jI) (L : jL) (kv0 : jk Z v0 0) (h : f_X0_addReach_b88 K16 Z Q v0 v1 v2 v4 v5 v6 v7 I L) : jJ G 9 88 [(0, .ref v0), (1, .int v1), (2, .int v2), (4, .int v4), (5, .int v5), (6, .int v6), (7, .long v7)] [] Z I L 0 0 := by
  refine j_aload_n E dX0_addReach_88 0 rfl ?_
  obtain ⟨b1, eb1, kb1, lb1⟩ := sh_f hZ kv0 (j := 1) (k := 15) (m := 400) rfl
  have h := h b1 eb1
  refine j_getr E 0 1 rfl rfl (by decide) (by decide) (iw iT_0) rfl rfl (tw W_96) kv0 eb1 dX0_addReach_89 ?_
  refine j_iload_n E dX0_addReach_92 1 rfl ?_
  refine j_bipush E (v := 16) dX0_addReach_93 (by decide) ?_
  refine j_imul E dX0_addReach_95 ?_
  refine j_iload E dX0_addReach_96 5 rfl ?_
  refine j_iadd E dX0_addReach_98 ?_
  refine j_dup2_11 E dX0_addReach_99 rfl rfl ?_
  obtain ⟨o2, h⟩ := h
  refine j_lald E kb1 (by rw [lb1]; exact o2) dX0_addReach_100 ?_
  refine j_lload E dX0_addReach_101 6 rfl ?_
  refine j_lor E dX0_addReach_103 ?_
  obtain ⟨o3, h⟩ := h
  refine j_last E kb1 (by rw [lb1]; exact o3) dX0_addReach_104 ?_
  refine j_nmL (fun L4 eL4 => ?_)
  have h := h L4 eL4
  obtain ⟨x5, ex5⟩ : ∃ y : Int32, y = v6 + (-1) := ⟨_, rfl⟩
  have h := h x5 ex5
  refine j_iinc E x5 [(6, .int x5), (0, .ref v0), (1, .int v1), (2, .int v2), (4, .int v4), (5, .int v5), (7, .long v7)] dX0_addReach_105 5 rfl (by rw [ex5]; rfl) (by decide) rfl ?_
  refine j_goto E 16 dX0_addReach_108 (by decide) ?_
  refine j_sub [1, 2, 3, 4, 5, 0] rfl ?_
  exact hK16 v0 v1 v2 v4 v5 x5 I L4 kv0 h
set_option maxRecDepth 100000 in
def f_X0_addReach_L16  (Z : jZ) (Q : jI → jL → Prop) : Nat → Nat → Int32 → Int32 → Int32 → Int32 → Int32 → jI → jL → Prop
  | 0 => fun _ _ _ _ _ _ _ _ => False
  | n + 1 => fun v0 v1 v2 v4 v5 v6 I L => ((v6 < v4 → Q I L) ∧ (¬ (v6 < v4) → ((v6 < 0 → Q I L) ∧ (¬ (v6 < 0) → (∀ b8 : Nat, jr Z v0 1 = some b8 → (vp_in (((v2 * (16 : Int32)) + v6) - v4) 400 ∧ (∀ x10 : Int64, x10 = ((L b8 (((v2 * (16 : Int32)) + v6) - v4).toNatClampNeg) <<< (v5.toInt64 &&& 63)) → ((v5 ≤ 0 → f_X0_addReach_b88 (f_X0_addReach_L16 Z Q n) Z Q v0 v1 v2 v4 v5 v6 x10 I L) ∧ (¬ (v5 ≤ 0) → ((v6 ≤ v4 → f_X0_addReach_b88 (f_X0_addReach_L16 Z Q n) Z Q v0 v1 v2 v4 v5 v6 x10 I L) ∧ (¬ (v6 ≤ v4) → (∀ b13 : Nat, jr Z v0 1 = some b13 → (vp_in ((((v2 * (16 : Int32)) + v6) - v4) - (1 : Int32)) 400 ∧ (∀ x15 : Int64, x15 = (x10 ||| (((L b13 ((((v2 * (16 : Int32)) + v6) - v4) - (1 : Int32)).toNatClampNeg).toUInt64 >>> (((64 : Int32) - v5).toInt64.toUInt64 &&& Int64.toUInt64 63)).toInt64)) → f_X0_addReach_b88 (f_X0_addReach_L16 Z Q n) Z Q v0 v1 v2 v4 v5 v6 x15 I L))))))))))))))
set_option maxHeartbeats 4000000 in
set_option maxRecDepth 100000 in
theorem m_X0_addReach_L16 {G : jG} {Z : jZ} {Q : jI → jL → Prop} (E : jE G cX0_addReach RX0 w_X0_addReach 9 none { frames := 0, cells := 0, slots := 0, locals := 0 } (rtV Z Q)) (hZ : SH Z)  : ∀ (n : Nat) (v0 : Nat) (v1 : Int32) (v2 : Int32) (v4 : Int32) (v5 : Int32) (v6 : Int32) (I : jI) (L : jL), jk Z v0 0 → f_X0_addReach_L16  Z Q n v0 v1 v2 v4 v5 v6 I L → jJ G 9 16 [(0, .ref v0), (1, .int v1), (2, .int v2), (4, .int v4), (5, .int v5), (6, .int v6)] [] Z I L 0 0 := by
  intro n
  induction n with
  | zero => intro v0 v1 v2 v4 v5 v6 I L _ h; exact h.elim
  | succ n ih =>
    intro v0 v1 v2 v4 v5 v6 I L kv0 h
    have h : ((v6 < v4 → Q I L) ∧ (¬ (v6 < v4) → ((v6 < 0 → Q I L) ∧ (¬ (v6 < 0) → (∀ b8 : Nat, jr Z v0 1 = some b8 → (vp_in (((v2 * (16 : Int32)) + v6) - v4) 400 ∧ (∀ x10 : Int64, x10 = ((L b8 (((v2 * (16 : Int32)) + v6) - v4).toNatClampNeg) <<< (v5.toInt64 &&& 63)) → ((v5 ≤ 0 → f_X0_addReach_b88 (f_X0_addReach_L16 Z Q n) Z Q v0 v1 v2 v4 v5 v6 x10 I L) ∧ (¬ (v5 ≤ 0) → ((v6 ≤ v4 → f_X0_addReach_b88 (f_X0_addReach_L16 Z Q n) Z Q v0 v1 v2 v4 v5 v6 x10 I L) ∧ (¬ (v6 ≤ v4) → (∀ b13 : Nat, jr Z v0 1 = some b13 → (vp_in ((((v2 * (16 : Int32)) + v6) - v4) - (1 : Int32)) 400 ∧ (∀ x15 : Int64, x15 = (x10 ||| (((L b13 ((((v2 * (16 : Int32)) + v6) - v4) - (1 : Int32)).toNatClampNeg).toUInt64 >>> (((64 : Int32) - v5).toInt64.toUInt64 &&& Int64.toUInt64 63)).toInt64)) → f_X0_addReach_b88 (f_X0_addReach_L16 Z Q n) Z Q v0 v1 v2 v4 v5 v6 x15 I L)))))))))))))) := h
    obtain ⟨K16, eK16⟩ : ∃ K : Nat → Int32 → Int32 → Int32 → Int32 → Int32 → jI → jL → Prop, K = f_X0_addReach_L16  Z Q n := ⟨_, rfl⟩
    have hK16 := ih
    clear eK16 K16
    generalize f_X0_addReach_L16  Z Q n = K16 at hK16 h
    refine j_iload E dX0_addReach_16 5 rfl ?_
    refine j_iload E dX0_addReach_18 3 rfl ?_
    refine j_icmp_lt E 111 dX0_addReach_20 (by decide) (fun c6 => ?_) (fun c6 => ?_)
    · have h := h.1 c6
      exact j_return E ⟨rfl, rfl, h⟩ (Nat.zero_le _) (Nat.zero_le _) dX0_addReach_111
    · have h := h.2 c6
      refine j_iload E dX0_addReach_23 5 rfl ?_
      refine j_if_lt E 111 dX0_addReach_25 (by decide) (fun c7 => ?_) (fun c7 => ?_)
      · have h := h.1 c7
        exact j_return E ⟨rfl, rfl, h⟩ (Nat.zero_le _) (Nat.zero_le _) dX0_addReach_111
      · have h := h.2 c7
        refine j_aload_n E dX0_addReach_28 0 rfl ?_
        obtain ⟨b8, eb8, kb8, lb8⟩ := sh_f hZ kv0 (j := 1) (k := 15) (m := 400) rfl
        have h := h b8 eb8
        refine j_getr E 0 1 rfl rfl (by decide) (by decide) (iw iT_0) rfl rfl (tw W_96) kv0 eb8 dX0_addReach_29 ?_
        refine j_iload_n E dX0_addReach_32 2 rfl ?_
        refine j_bipush E (v := 16) dX0_addReach_33 (by decide) ?_
        refine j_imul E dX0_addReach_35 ?_
        refine j_iload E dX0_addReach_36 5 rfl ?_
        refine j_iadd E dX0_addReach_38 ?_
        refine j_iload E dX0_addReach_39 3 rfl ?_
        refine j_isub E dX0_addReach_41 ?_
        obtain ⟨o9, h⟩ := h
        refine j_lald E kb8 (by rw [lb8]; exact o9) dX0_addReach_42 ?_
        refine j_iload E dX0_addReach_43 4 rfl ?_
        refine j_lshl E dX0_addReach_45 ?_
        refine j_topl (fun x10 ex10 => ?_)
        have h := h x10 ex10
        refine j_lstore E 7 [(7, .long x10), (0, .ref v0), (1, .int v1), (2, .int v2), (4, .int v4), (5, .int v5), (6, .int v6)] dX0_addReach_46 (by decide) rfl ?_
        refine j_iload E dX0_addReach_48 5 rfl ?_
        refine j_if_le E 88 dX0_addReach_50 (by decide) (fun c11 => ?_) (fun c11 => ?_)
        · have h := h.1 c11
          refine j_sub [1, 2, 3, 4, 5, 6, 0] rfl ?_
          exact m_X0_addReach_b88 E hZ K16 hK16 v0 v1 v2 v4 v5 v6 x10 I L kv0 h
        · have h := h.2 c11
          refine j_iload E dX0_addReach_53 6 rfl ?_
          refine j_iload E dX0_addReach_55 4 rfl ?_
          refine j_icmp_le E 88 dX0_addReach_57 (by decide) (fun c12 => ?_) (fun c12 => ?_)
          · have h := h.1 c12
            refine j_sub [1, 2, 3, 4, 5, 6, 0] rfl ?_
            exact m_X0_addReach_b88 E hZ K16 hK16 v0 v1 v2 v4 v5 v6 x10 I L kv0 h
          · have h := h.2 c12
            refine j_lload E dX0_addReach_60 0 rfl ?_
            refine j_aload_n E dX0_addReach_62 1 rfl ?_
            obtain ⟨b13, eb13, kb13, lb13⟩ := sh_f hZ kv0 (j := 1) (k := 15) (m := 400) rfl
            have h := h b13 eb13
            refine j_getr E 0 1 rfl rfl (by decide) (by decide) (iw iT_0) rfl rfl (tw W_96) kv0 eb13 dX0_addReach_63 ?_
            refine j_iload_n E dX0_addReach_66 3 rfl ?_
            refine j_bipush E (v := 16) dX0_addReach_67 (by decide) ?_
            refine j_imul E dX0_addReach_69 ?_
            refine j_iload E dX0_addReach_70 6 rfl ?_
            refine j_iadd E dX0_addReach_72 ?_
            refine j_iload E dX0_addReach_73 4 rfl ?_
            refine j_isub E dX0_addReach_75 ?_
            refine j_iconst E (v := 1) dX0_addReach_76 (by decide) ?_
            refine j_isub E dX0_addReach_77 ?_
            obtain ⟨o14, h⟩ := h
            refine j_lald E kb13 (by rw [lb13]; exact o14) dX0_addReach_78 ?_
            refine j_bipush E (v := 64) dX0_addReach_79 (by decide) ?_
            refine j_iload E dX0_addReach_81 5 rfl ?_
            refine j_isub E dX0_addReach_83 ?_
            refine j_lushr E dX0_addReach_84 ?_
            refine j_lor E dX0_addReach_85 ?_
            refine j_topl (fun x15 ex15 => ?_)
            have h := h x15 ex15
            refine j_lstore E 7 [(7, .long x15), (0, .ref v0), (1, .int v1), (2, .int v2), (4, .int v4), (5, .int v5), (6, .int v6)] dX0_addReach_86 (by decide) rfl ?_
            refine j_sub [1, 2, 3, 4, 5, 6, 0] rfl ?_
            exact m_X0_addReach_b88 E hZ K16 hK16 v0 v1 v2 v4 v5 v6 x15 I L kv0 h
set_option maxRecDepth 100000 in
def f_X0_addReach (v0 : Nat) (v1 : Int32) (v2 : Int32) (v3 : Int32) (Z : jZ) (I : jI) (L : jL) (Q : jI → jL → Prop) : Prop := (∀ x16 : Int32, x16 = (v3 / (64 : Int32)) → (∀ x17 : Int32, x17 = (v3 - v3 / (64 : Int32) * (64 : Int32)) → (∃ m16 : Nat, f_X0_addReach_L16  Z Q m16 v0 v1 v2 x16 x17 (15 : Int32) I L)))
set_option maxHeartbeats 4000000 in
set_option maxRecDepth 100000 in
theorem c_X0_addReach (l : Launch) (D : va_G) (cy : jC) (v0 : Nat) (v1 : Int32) (v2 : Int32) (v3 : Int32) (Z : jZ) (I : jI) (L : jL) (Q : jI → jL → Prop) (hZ : SH Z) (kv0 : jk Z v0 0) (h : f_X0_addReach v0 v1 v2 v3 Z I L Q) : jCt l yX0_addReach w_X0_addReach { frames := 0, cells := 0, slots := 0, locals := 0 } D cy [.ref v0, .int v1, .int v2, .int v3] Z I L (rtV Z Q) := by
  refine jCt_of (cc := cX0_addReach) (maxL := 9) (ret := none) (by decide +kernel) rfl (Nat.le_of_ble_eq_true rfl) ?_
  intro G eD eY eL E
  subst eD; subst eY; subst eL
  have E : jE G cX0_addReach RX0 w_X0_addReach 9 none { frames := 0, cells := 0, slots := 0, locals := 0 } (rtV Z Q) := E
  show jJ G 9 0 [(0, .ref v0), (1, .int v1), (2, .int v2), (3, .int v3)] [] Z I L 0 0
  refine j_iload_n E dX0_addReach_0 3 rfl ?_
  refine j_bipush E (v := 64) dX0_addReach_1 (by decide) ?_
  refine j_idiv E dX0_addReach_3 (by decide) ?_
  refine j_topi (fun x16 ex16 => ?_)
  have h := h x16 ex16
  refine j_istore E 4 [(4, .int x16), (0, .ref v0), (1, .int v1), (2, .int v2), (3, .int v3)] dX0_addReach_4 (by decide) rfl ?_
  refine j_iload_n E dX0_addReach_6 4 rfl ?_
  refine j_bipush E (v := 64) dX0_addReach_7 (by decide) ?_
  refine j_irem E dX0_addReach_9 (by decide) ?_
  refine j_topi (fun x17 ex17 => ?_)
  have h := h x17 ex17
  refine j_istore E 5 [(5, .int x17), (4, .int x16), (0, .ref v0), (1, .int v1), (2, .int v2), (3, .int v3)] dX0_addReach_10 (by decide) rfl ?_
  refine j_bipush E (v := 15) dX0_addReach_12 (by decide) ?_
  refine j_istore E 6 [(6, .int (15 : Int32)), (5, .int x17), (4, .int x16), (0, .ref v0), (1, .int v1), (2, .int v2), (3, .int v3)] dX0_addReach_14 (by decide) rfl ?_
  obtain ⟨n18, h⟩ := h
  refine j_sub [3, 4, 5, 2, 1, 0] rfl ?_
  exact m_X0_addReach_L16 E hZ  n18 v0 v1 v2 x16 x17 (15 : Int32) I L kv0 h
set_option maxRecDepth 100000 in
def f_X0_findReach_b89 (K28 : Nat → Nat → Int32 → jI → jL → Prop) (Z : jZ) (Q : jI → jL → Prop) (v0 : Nat) (v1 : Nat) (v2 : Int32) (I : jI) (L : jL) : Prop := (∀ x1 : Int32, x1 = v2 + (-1) → K28 v0 v1 x1 I L)
set_option maxHeartbeats 4000000 in
set_option maxRecDepth 100000 in
theorem m_X0_findReach_b89 {G : jG} {Z : jZ} {Q : jI → jL → Prop} (E : jE G cX0_findReach RX0 w_X0_findReach 4 none { frames := 1, cells := 0, slots := 0, locals := 28 } (rtV Z Q)) (hZ : SH Z) (K28 : Nat → Nat → Int32 → jI → jL → Prop) (hK28 : ∀ (v0 : Nat) (v1 : Nat) (v2 : Int32) (I : jI) (L : jL), jk Z v0 0 → jk Z v1 6 → K28 v0 v1 v2 I L → jJ G 4 28 [(0, .ref v0), (1, .ref v1), (2, .int v2)] [] Z I L 0 0) (v0 : Nat) (v1 : Nat) (v2 : Int32) (I : jI) (L : jL) (kv0 : jk Z v0 0) (kv1 : jk Z v1 6) (h : f_X0_findReach_b89 K28 Z Q v0 v1 v2 I L) : jJ G 4 89 [(0, .ref v0), (1, .ref v1), (2, .int v2)] [] Z I L 0 0 := by
  obtain ⟨x1, ex1⟩ : ∃ y : Int32, y = v2 + (-1) := ⟨_, rfl⟩
  have h := h x1 ex1
  refine j_iinc E x1 [(2, .int x1), (0, .ref v0), (1, .ref v1)] dX0_findReach_89 2 rfl (by rw [ex1]; rfl) (by decide) rfl ?_
  refine j_goto E 28 dX0_findReach_92 (by decide) ?_
  refine j_sub [1, 2, 0] rfl ?_
  exact hK28 v0 v1 x1 I L kv0 kv1 h
set_option maxRecDepth 100000 in
def f_X0_findReach_b83 (K28 : Nat → Nat → Int32 → jI → jL → Prop) (K34 : Nat → Nat → Int32 → Int32 → jI → jL → Prop) (Z : jZ) (Q : jI → jL → Prop) (v0 : Nat) (v1 : Nat) (v2 : Int32) (v3 : Int32) (I : jI) (L : jL) : Prop := (∀ x2 : Int32, x2 = v3 + 1 → K34 v0 v1 v2 x2 I L)
set_option maxHeartbeats 4000000 in
set_option maxRecDepth 100000 in
theorem m_X0_findReach_b83 {G : jG} {Z : jZ} {Q : jI → jL → Prop} (E : jE G cX0_findReach RX0 w_X0_findReach 4 none { frames := 1, cells := 0, slots := 0, locals := 28 } (rtV Z Q)) (hZ : SH Z) (K28 : Nat → Nat → Int32 → jI → jL → Prop) (hK28 : ∀ (v0 : Nat) (v1 : Nat) (v2 : Int32) (I : jI) (L : jL), jk Z v0 0 → jk Z v1 6 → K28 v0 v1 v2 I L → jJ G 4 28 [(0, .ref v0), (1, .ref v1), (2, .int v2)] [] Z I L 0 0) (K34 : Nat → Nat → Int32 → Int32 → jI → jL → Prop) (hK34 : ∀ (v0 : Nat) (v1 : Nat) (v2 : Int32) (v3 : Int32) (I : jI) (L : jL), jk Z v0 0 → jk Z v1 6 → K34 v0 v1 v2 v3 I L → jJ G 4 34 [(0, .ref v0), (1, .ref v1), (2, .int v2), (3, .int v3)] [] Z I L 0 0) (v0 : Nat) (v1 : Nat) (v2 : Int32) (v3 : Int32) (I : jI) (L : jL) (kv0 : jk Z v0 0) (kv1 : jk Z v1 6) (h : f_X0_findReach_b83 K28 K34 Z Q v0 v1 v2 v3 I L) : jJ G 4 83 [(0, .ref v0), (1, .ref v1), (2, .int v2), (3, .int v3)] [] Z I L 0 0 := by
  obtain ⟨x2, ex2⟩ : ∃ y : Int32, y = v3 + 1 := ⟨_, rfl⟩
  have h := h x2 ex2
  refine j_iinc E x2 [(3, .int x2), (0, .ref v0), (1, .ref v1), (2, .int v2)] dX0_findReach_83 3 rfl (by rw [ex2]; rfl) (by decide) rfl ?_
  refine j_goto E 34 dX0_findReach_86 (by decide) ?_
  refine j_sub [1, 2, 3, 0] rfl ?_
  exact hK34 v0 v1 v2 x2 I L kv0 kv1 h
set_option maxRecDepth 100000 in
def f_X0_findReach_L34 (K28 : Nat → Nat → Int32 → jI → jL → Prop) (Z : jZ) (Q : jI → jL → Prop) : Nat → Nat → Nat → Int32 → Int32 → jI → jL → Prop
  | 0 => fun _ _ _ _ _ _ => False
  | n + 1 => fun v0 v1 v2 v3 I L => (((I v1 3) < v3 → f_X0_findReach_b89 K28 Z Q v0 v1 v2 I L) ∧ (¬ ((I v1 3) < v3) → (((I v1 15) < (v2 + v3) → f_X0_findReach_b89 K28 Z Q v0 v1 v2 I L) ∧ (¬ ((I v1 15) < (v2 + v3)) → (∀ b5 : Nat, jr Z v1 6 = some b5 → (vp_in (v2 + v3) 25 ∧ (((I b5 (v2 + v3).toNatClampNeg) = 0 → f_X0_findReach_b83 K28 (f_X0_findReach_L34 K28 Z Q n) Z Q v0 v1 v2 v3 I L) ∧ (¬ ((I b5 (v2 + v3).toNatClampNeg) = 0) → (∀ b8 : Nat, jr Z v1 4 = some b8 → (f_X6_moveTo (v2 + v3) v3 Z I L (fun r15 I11 L12 => (vp_in r15 75 ∧ (f_X0_addReach v0 v2 (v2 + v3) (I11 b8 r15.toNatClampNeg) Z I11 L12 (fun I19 L20 => f_X0_findReach_b83 K28 (f_X0_findReach_L34 K28 Z Q n) Z Q v0 v1 v2 v3 I19 L20))))))))))))))
set_option maxHeartbeats 4000000 in
set_option maxRecDepth 100000 in
theorem m_X0_findReach_L34 {G : jG} {Z : jZ} {Q : jI → jL → Prop} (E : jE G cX0_findReach RX0 w_X0_findReach 4 none { frames := 1, cells := 0, slots := 0, locals := 28 } (rtV Z Q)) (hZ : SH Z) (K28 : Nat → Nat → Int32 → jI → jL → Prop) (hK28 : ∀ (v0 : Nat) (v1 : Nat) (v2 : Int32) (I : jI) (L : jL), jk Z v0 0 → jk Z v1 6 → K28 v0 v1 v2 I L → jJ G 4 28 [(0, .ref v0), (1, .ref v1), (2, .int v2)] [] Z I L 0 0) : ∀ (n : Nat) (v0 : Nat) (v1 : Nat) (v2 : Int32) (v3 : Int32) (I : jI) (L : jL), jk Z v0 0 → jk Z v1 6 → f_X0_findReach_L34 K28 Z Q n v0 v1 v2 v3 I L → jJ G 4 34 [(0, .ref v0), (1, .ref v1), (2, .int v2), (3, .int v3)] [] Z I L 0 0 := by
  intro n
  induction n with
  | zero => intro v0 v1 v2 v3 I L _ _ h; exact h.elim
  | succ n ih =>
    intro v0 v1 v2 v3 I L kv0 kv1 h
    have h : (((I v1 3) < v3 → f_X0_findReach_b89 K28 Z Q v0 v1 v2 I L) ∧ (¬ ((I v1 3) < v3) → (((I v1 15) < (v2 + v3) → f_X0_findReach_b89 K28 Z Q v0 v1 v2 I L) ∧ (¬ ((I v1 15) < (v2 + v3)) → (∀ b5 : Nat, jr Z v1 6 = some b5 → (vp_in (v2 + v3) 25 ∧ (((I b5 (v2 + v3).toNatClampNeg) = 0 → f_X0_findReach_b83 K28 (f_X0_findReach_L34 K28 Z Q n) Z Q v0 v1 v2 v3 I L) ∧ (¬ ((I b5 (v2 + v3).toNatClampNeg) = 0) → (∀ b8 : Nat, jr Z v1 4 = some b8 → (f_X6_moveTo (v2 + v3) v3 Z I L (fun r15 I11 L12 => (vp_in r15 75 ∧ (f_X0_addReach v0 v2 (v2 + v3) (I11 b8 r15.toNatClampNeg) Z I11 L12 (fun I19 L20 => f_X0_findReach_b83 K28 (f_X0_findReach_L34 K28 Z Q n) Z Q v0 v1 v2 v3 I19 L20)))))))))))))) := h
    obtain ⟨K34, eK34⟩ : ∃ K : Nat → Nat → Int32 → Int32 → jI → jL → Prop, K = f_X0_findReach_L34 K28 Z Q n := ⟨_, rfl⟩
    have hK34 := ih
    clear eK34 K34
    generalize f_X0_findReach_L34 K28 Z Q n = K34 at hK34 h
    refine j_iload_n E dX0_findReach_34 3 rfl ?_
    refine j_aload_n E dX0_findReach_35 1 rfl ?_
    refine j_getiN E 6 3 rfl rfl (by decide) (by decide) (iw iT_6) rfl rfl (nw_6_3_X0_109) kv1 dX0_findReach_36 ?_
    refine j_icmp_gt E 89 dX0_findReach_39 (by decide) (fun c3 => ?_) (fun c3 => ?_)
    · have h := h.1 c3
      refine j_sub [0, 1, 2] rfl ?_
      exact m_X0_findReach_b89 E hZ K28 hK28 v0 v1 v2 I L kv0 kv1 h
    · have h := h.2 c3
      refine j_iload_n E dX0_findReach_42 2 rfl ?_
      refine j_iload_n E dX0_findReach_43 3 rfl ?_
      refine j_iadd E dX0_findReach_44 ?_
      refine j_aload_n E dX0_findReach_45 1 rfl ?_
      refine j_getiN E 6 15 rfl rfl (by decide) (by decide) (iw iT_6) rfl rfl (nw_6_15_X0_32) kv1 dX0_findReach_46 ?_
      refine j_icmp_gt E 89 dX0_findReach_49 (by decide) (fun c4 => ?_) (fun c4 => ?_)
      · have h := h.1 c4
        refine j_sub [0, 1, 2] rfl ?_
        exact m_X0_findReach_b89 E hZ K28 hK28 v0 v1 v2 I L kv0 kv1 h
      · have h := h.2 c4
        refine j_aload_n E dX0_findReach_52 1 rfl ?_
        obtain ⟨b5, eb5, kb5, lb5⟩ := sh_f hZ kv1 (j := 6) (k := 16) (m := 25) rfl
        have h := h b5 eb5
        refine j_getrN E 6 6 rfl rfl (by decide) (by decide) (iw iT_6) rfl rfl (nw_6_6_X0_112) kv1 eb5 dX0_findReach_53 ?_
        refine j_iload_n E dX0_findReach_56 2 rfl ?_
        refine j_iload_n E dX0_findReach_57 3 rfl ?_
        refine j_iadd E dX0_findReach_58 ?_
        obtain ⟨o6, h⟩ := h
        refine j_zald E kb5 (by rw [lb5]; exact o6) dX0_findReach_59 ?_
        refine j_if_eq E 83 dX0_findReach_60 (by decide) (fun c7 => ?_) (fun c7 => ?_)
        · have h := h.1 c7
          refine j_sub [0, 1, 2, 3] rfl ?_
          exact m_X0_findReach_b83 E hZ K28 hK28 K34 hK34 v0 v1 v2 v3 I L kv0 kv1 h
        · have h := h.2 c7
          refine j_aload_n E dX0_findReach_63 0 rfl ?_
          refine j_iload_n E dX0_findReach_64 2 rfl ?_
          refine j_iload_n E dX0_findReach_65 2 rfl ?_
          refine j_iload_n E dX0_findReach_66 3 rfl ?_
          refine j_iadd E dX0_findReach_67 ?_
          refine j_aload_n E dX0_findReach_68 1 rfl ?_
          obtain ⟨b8, eb8, kb8, lb8⟩ := sh_f hZ kv1 (j := 4) (k := 14) (m := 75) rfl
          have h := h b8 eb8
          refine j_getrN E 6 4 rfl rfl (by decide) (by decide) (iw iT_6) rfl rfl (nw_6_4_X0_116) kv1 eb8 dX0_findReach_69 ?_
          refine j_iload_n E dX0_findReach_72 2 rfl ?_
          refine j_iload_n E dX0_findReach_73 3 rfl ?_
          refine j_iadd E dX0_findReach_74 ?_
          refine j_iload_n E dX0_findReach_75 3 rfl ?_
          refine j_callSN E [.int (v2 + v3), .int v3] [.ref b8, .int (v2 + v3), .int v2, .ref v0] (c_X6_moveTo (gL G) (gD G) (gY G) (v2 + v3) v3 Z I L _ hZ  h) (gwN W_32) rfl (nm_X6_moveTo_X0_119) (tw W_33) (tw W_35) fy_X6_moveTo ⟨by decide, by decide⟩ rfl rfl (Nat.le_of_ble_eq_true rfl) ⟨Nat.zero_le _, Nat.zero_le _⟩ dX0_findReach_76 (fun v9 Z10 I11 L12 q13 => ?_)
          obtain ⟨rfl, r15, rfl, h⟩ := q13
          show jJ G 4 79 [(0, .ref v0), (1, .ref v1), (2, .int v2), (3, .int v3)] [.int r15, .ref b8, .int (v2 + v3), .int v2, .ref v0] Z I11 L12 0 0
          obtain ⟨o16, h⟩ := h
          refine j_iald E kb8 (by rw [lb8]; exact o16) dX0_findReach_79 ?_
          refine j_callV E [.int v2, .int (v2 + v3), .int (I11 b8 r15.toNatClampNeg)] [] (c_X0_addReach (gL G) (gD G) (gY G) v0 v2 (v2 + v3) (I11 b8 r15.toNatClampNeg) Z I11 L12 _ hZ kv0 h) (gwV W_99 W_100 W_101 W_98 W_97) rfl ⟨rfl, fy_X0_addReach⟩ ⟨by decide, by decide⟩ (c := 0) rfl (by decide) kv0 rfl rfl (Nat.le_of_ble_eq_true rfl) ⟨Nat.zero_le _, Nat.zero_le _⟩ dX0_findReach_80 (fun v17 Z18 I19 L20 q21 => ?_)
          obtain ⟨rfl, rfl, h⟩ := q21
          show jJ G 4 83 [(0, .ref v0), (1, .ref v1), (2, .int v2), (3, .int v3)] [] Z I19 L20 0 0
          refine j_sub [0, 1, 2, 3] rfl ?_
          exact m_X0_findReach_b83 E hZ K28 hK28 K34 hK34 v0 v1 v2 v3 I19 L20 kv0 kv1 h
set_option maxRecDepth 100000 in
def f_X0_findReach_L28  (Z : jZ) (Q : jI → jL → Prop) : Nat → Nat → Nat → Int32 → jI → jL → Prop
  | 0 => fun _ _ _ _ _ => False
  | n + 1 => fun v0 v1 v2 I L => ((v2 < 0 → Q I L) ∧ (¬ (v2 < 0) → (∃ m34 : Nat, f_X0_findReach_L34 (f_X0_findReach_L28 Z Q n) Z Q m34 v0 v1 v2 (1 : Int32) I L)))
set_option maxHeartbeats 4000000 in
set_option maxRecDepth 100000 in
theorem m_X0_findReach_L28 {G : jG} {Z : jZ} {Q : jI → jL → Prop} (E : jE G cX0_findReach RX0 w_X0_findReach 4 none { frames := 1, cells := 0, slots := 0, locals := 28 } (rtV Z Q)) (hZ : SH Z)  : ∀ (n : Nat) (v0 : Nat) (v1 : Nat) (v2 : Int32) (I : jI) (L : jL), jk Z v0 0 → jk Z v1 6 → f_X0_findReach_L28  Z Q n v0 v1 v2 I L → jJ G 4 28 [(0, .ref v0), (1, .ref v1), (2, .int v2)] [] Z I L 0 0 := by
  intro n
  induction n with
  | zero => intro v0 v1 v2 I L _ _ h; exact h.elim
  | succ n ih =>
    intro v0 v1 v2 I L kv0 kv1 h
    have h : ((v2 < 0 → Q I L) ∧ (¬ (v2 < 0) → (∃ m34 : Nat, f_X0_findReach_L34 (f_X0_findReach_L28 Z Q n) Z Q m34 v0 v1 v2 (1 : Int32) I L))) := h
    obtain ⟨K28, eK28⟩ : ∃ K : Nat → Nat → Int32 → jI → jL → Prop, K = f_X0_findReach_L28  Z Q n := ⟨_, rfl⟩
    have hK28 := ih
    clear eK28 K28
    generalize f_X0_findReach_L28  Z Q n = K28 at hK28 h
    refine j_iload_n E dX0_findReach_28 2 rfl ?_
    refine j_if_lt E 95 dX0_findReach_29 (by decide) (fun c23 => ?_) (fun c23 => ?_)
    · have h := h.1 c23
      exact j_return E ⟨rfl, rfl, h⟩ (Nat.zero_le _) (Nat.zero_le _) dX0_findReach_95
    · have h := h.2 c23
      refine j_iconst E (v := 1) dX0_findReach_32 (by decide) ?_
      refine j_istore_n E 3 [(3, .int (1 : Int32)), (0, .ref v0), (1, .ref v1), (2, .int v2)] dX0_findReach_33 rfl (by decide) rfl ?_
      obtain ⟨n24, h⟩ := h
      refine j_sub [1, 2, 3, 0] rfl ?_
      exact m_X0_findReach_L34 E hZ K28 hK28 n24 v0 v1 v2 (1 : Int32) I L kv0 kv1 h
set_option maxRecDepth 100000 in
def f_X0_findReach (v0 : Nat) (v1 : Nat) (Z : jZ) (I : jI) (L : jL) (Q : jI → jL → Prop) : Prop := (∀ b25 : Nat, jr Z v0 1 = some b25 → (f_J7_fill_d0a16 b25 (0 : Int64) Z I L (fun I28 L29 => (∀ b32 : Nat, jr Z v0 1 = some b32 → (vp_in ((I28 v1 15) * (16 : Int32)) 400 ∧ (∀ L34 : jL, L34 = jpL L29 b32 ((I28 v1 15) * (16 : Int32)).toNatClampNeg (1 : Int64) → (∀ x35 : Int32, x35 = ((I28 v1 15) - (1 : Int32)) → (∃ m28 : Nat, f_X0_findReach_L28  Z Q m28 v0 v1 x35 I28 L34))))))))
set_option maxHeartbeats 4000000 in
set_option maxRecDepth 100000 in
theorem c_X0_findReach (l : Launch) (D : va_G) (cy : jC) (v0 : Nat) (v1 : Nat) (Z : jZ) (I : jI) (L : jL) (Q : jI → jL → Prop) (hZ : SH Z) (kv0 : jk Z v0 0) (kv1 : jk Z v1 6) (h : f_X0_findReach v0 v1 Z I L Q) : jCt l yX0_findReach w_X0_findReach { frames := 1, cells := 0, slots := 0, locals := 28 } D cy [.ref v0, .ref v1] Z I L (rtV Z Q) := by
  refine jCt_of (cc := cX0_findReach) (maxL := 4) (ret := none) (by decide +kernel) rfl (Nat.le_of_ble_eq_true rfl) ?_
  intro G eD eY eL E
  subst eD; subst eY; subst eL
  have E : jE G cX0_findReach RX0 w_X0_findReach 4 none { frames := 1, cells := 0, slots := 0, locals := 28 } (rtV Z Q) := E
  show jJ G 4 0 [(0, .ref v0), (1, .ref v1)] [] Z I L 0 0
  refine j_aload_n E dX0_findReach_0 0 rfl ?_
  obtain ⟨b25, eb25, kb25, lb25⟩ := sh_f hZ kv0 (j := 1) (k := 15) (m := 400) rfl
  have h := h b25 eb25
  refine j_getr E 0 1 rfl rfl (by decide) (by decide) (iw iT_0) rfl rfl (tw W_96) kv0 eb25 dX0_findReach_1 ?_
  refine j_lconst E (v := 0) dX0_findReach_4 (by decide) ?_
  refine j_callS E [.ref b25, .long (0 : Int64)] [] (c_J7_fill_d0a16 (gL G) (gD G) (gY G) b25 (0 : Int64) Z I L _ hZ kb25 h) (gwS W_103 W_104 W_17 W_102) rfl fy_J7_fill_d0a16 ⟨by decide, by decide⟩ rfl rfl (Nat.le_of_ble_eq_true rfl) ⟨Nat.zero_le _, Nat.zero_le _⟩ dX0_findReach_5 (fun v26 Z27 I28 L29 q30 => ?_)
  obtain ⟨rfl, rfl, h⟩ := q30
  show jJ G 4 8 [(0, .ref v0), (1, .ref v1)] [] Z I28 L29 0 0
  refine j_aload_n E dX0_findReach_8 0 rfl ?_
  obtain ⟨b32, eb32, kb32, lb32⟩ := sh_f hZ kv0 (j := 1) (k := 15) (m := 400) rfl
  have h := h b32 eb32
  refine j_getr E 0 1 rfl rfl (by decide) (by decide) (iw iT_0) rfl rfl (tw W_96) kv0 eb32 dX0_findReach_9 ?_
  refine j_aload_n E dX0_findReach_12 1 rfl ?_
  refine j_getiN E 6 15 rfl rfl (by decide) (by decide) (iw iT_6) rfl rfl (nw_6_15_X0_32) kv1 dX0_findReach_13 ?_
  refine j_bipush E (v := 16) dX0_findReach_16 (by decide) ?_
  refine j_imul E dX0_findReach_18 ?_
  refine j_lconst E (v := 1) dX0_findReach_19 (by decide) ?_
  obtain ⟨o33, h⟩ := h
  refine j_last E kb32 (by rw [lb32]; exact o33) dX0_findReach_20 ?_
  refine j_nmL (fun L34 eL34 => ?_)
  have h := h L34 eL34
  refine j_aload_n E dX0_findReach_21 1 rfl ?_
  refine j_getiN E 6 15 rfl rfl (by decide) (by decide) (iw iT_6) rfl rfl (nw_6_15_X0_32) kv1 dX0_findReach_22 ?_
  refine j_iconst E (v := 1) dX0_findReach_25 (by decide) ?_
  refine j_isub E dX0_findReach_26 ?_
  refine j_topi (fun x35 ex35 => ?_)
  have h := h x35 ex35
  refine j_istore_n E 2 [(2, .int x35), (0, .ref v0), (1, .ref v1)] dX0_findReach_27 rfl (by decide) rfl ?_
  obtain ⟨n36, h⟩ := h
  refine j_sub [1, 2, 0] rfl ?_
  exact m_X0_findReach_L28 E hZ  n36 v0 v1 x35 I28 L34 kv0 kv1 h
set_option maxRecDepth 100000 in
def f_X0_isInReach (v0 : Nat) (v1 : Int32) (v2 : Int32) (Z : jZ) (I : jI) (L : jL) (Q : Int32 → jI → jL → Prop) : Prop := (∀ x1 : Int32, x1 = (v2 / (64 : Int32)) → (((16 : Int32) ≤ x1 → Q (0 : Int32) I L) ∧ (¬ ((16 : Int32) ≤ x1) → (∀ b3 : Nat, jr Z v0 1 = some b3 → (vp_in ((v1 * (16 : Int32)) + x1) 400 ∧ (((lg_cmp ((((L b3 ((v1 * (16 : Int32)) + x1).toNatClampNeg).toUInt64 >>> ((v2 - v2 / (64 : Int32) * (64 : Int32)).toInt64.toUInt64 &&& Int64.toUInt64 63)).toInt64) &&& (1 : Int64)) (0 : Int64)) = 0 → Q (0 : Int32) I L) ∧ (¬ ((lg_cmp ((((L b3 ((v1 * (16 : Int32)) + x1).toNatClampNeg).toUInt64 >>> ((v2 - v2 / (64 : Int32) * (64 : Int32)).toInt64.toUInt64 &&& Int64.toUInt64 63)).toInt64) &&& (1 : Int64)) (0 : Int64)) = 0) → Q (1 : Int32) I L)))))))
set_option maxHeartbeats 4000000 in
set_option maxRecDepth 100000 in
theorem c_X0_isInReach (l : Launch) (D : va_G) (cy : jC) (v0 : Nat) (v1 : Int32) (v2 : Int32) (Z : jZ) (I : jI) (L : jL) (Q : Int32 → jI → jL → Prop) (hZ : SH Z) (kv0 : jk Z v0 0) (h : f_X0_isInReach v0 v1 v2 Z I L Q) : jCt l yX0_isInReach w_X0_isInReach { frames := 0, cells := 0, slots := 0, locals := 0 } D cy [.ref v0, .int v1, .int v2] Z I L (rtZ Z Q) := by
  refine jCt_of (cc := cX0_isInReach) (maxL := 4) (ret := (some .boolean)) (by decide +kernel) rfl (Nat.le_of_ble_eq_true rfl) ?_
  intro G eD eY eL E
  subst eD; subst eY; subst eL
  have E : jE G cX0_isInReach RX0 w_X0_isInReach 4 (some .boolean) { frames := 0, cells := 0, slots := 0, locals := 0 } (rtZ Z Q) := E
  show jJ G 4 0 [(0, .ref v0), (1, .int v1), (2, .int v2)] [] Z I L 0 0
  refine j_iload_n E dX0_isInReach_0 2 rfl ?_
  refine j_bipush E (v := 64) dX0_isInReach_1 (by decide) ?_
  refine j_idiv E dX0_isInReach_3 (by decide) ?_
  refine j_topi (fun x1 ex1 => ?_)
  have h := h x1 ex1
  refine j_istore_n E 3 [(3, .int x1), (0, .ref v0), (1, .int v1), (2, .int v2)] dX0_isInReach_4 rfl (by decide) rfl ?_
  refine j_iload_n E dX0_isInReach_5 0 rfl ?_
  refine j_bipush E (v := 16) dX0_isInReach_6 (by decide) ?_
  refine j_icmp_ge E 38 dX0_isInReach_8 (by decide) (fun c2 => ?_) (fun c2 => ?_)
  · have h := h.1 c2
    refine j_iconst E (v := 0) dX0_isInReach_38 (by decide) ?_
    exact j_zreturn E (Or.inl rfl) ⟨rfl, _, rfl, (Or.inl rfl), h⟩ (Nat.zero_le _) (Nat.zero_le _) dX0_isInReach_39
  · have h := h.2 c2
    refine j_aload_n E dX0_isInReach_11 1 rfl ?_
    obtain ⟨b3, eb3, kb3, lb3⟩ := sh_f hZ kv0 (j := 1) (k := 15) (m := 400) rfl
    have h := h b3 eb3
    refine j_getr E 0 1 rfl rfl (by decide) (by decide) (iw iT_0) rfl rfl (tw W_96) kv0 eb3 dX0_isInReach_12 ?_
    refine j_iload_n E dX0_isInReach_15 2 rfl ?_
    refine j_bipush E (v := 16) dX0_isInReach_16 (by decide) ?_
    refine j_imul E dX0_isInReach_18 ?_
    refine j_iload_n E dX0_isInReach_19 0 rfl ?_
    refine j_iadd E dX0_isInReach_20 ?_
    obtain ⟨o4, h⟩ := h
    refine j_lald E kb3 (by rw [lb3]; exact o4) dX0_isInReach_21 ?_
    refine j_iload_n E dX0_isInReach_22 3 rfl ?_
    refine j_bipush E (v := 64) dX0_isInReach_23 (by decide) ?_
    refine j_irem E dX0_isInReach_25 (by decide) ?_
    refine j_lushr E dX0_isInReach_26 ?_
    refine j_lconst E (v := 1) dX0_isInReach_27 (by decide) ?_
    refine j_land E dX0_isInReach_28 ?_
    refine j_lconst E (v := 0) dX0_isInReach_29 (by decide) ?_
    refine j_lcmp E dX0_isInReach_30 ?_
    refine j_if_eq E 38 dX0_isInReach_31 (by decide) (fun c5 => ?_) (fun c5 => ?_)
    · have h := h.1 c5
      refine j_iconst E (v := 0) dX0_isInReach_38 (by decide) ?_
      exact j_zreturn E (Or.inl rfl) ⟨rfl, _, rfl, (Or.inl rfl), h⟩ (Nat.zero_le _) (Nat.zero_le _) dX0_isInReach_39
    · have h := h.2 c5
      refine j_iconst E (v := 1) dX0_isInReach_34 (by decide) ?_
      refine j_goto E 39 dX0_isInReach_35 (by decide) ?_
      exact j_zreturn E (Or.inr rfl) ⟨rfl, _, rfl, (Or.inr rfl), h⟩ (Nat.zero_le _) (Nat.zero_le _) dX0_isInReach_39
set_option maxRecDepth 100000 in
def f_X7_pushSummed_b58 (B : Nat × Nat)  (Q : jZ → jI → jL → Prop) (v0 : Nat) (v1 : Int32) (v2 : Int64) (Z : jZ) (I : jI) (L : jL) : Prop := (f_X7_push B v0 v1 v2 Z I L (fun Z2 I3 L4 => Q Z2 I3 L4))
set_option maxHeartbeats 4000000 in
set_option maxRecDepth 100000 in
theorem m_X7_pushSummed_b58 {G : jG} {B : Nat × Nat} {Z0 : jZ} {Q : jZ → jI → jL → Prop} (E : jE G cX7_pushSummed RX7 w_X7_pushSummed 5 none (jrm B 3 93 Z0) jRF) (EU : jEU G B Z0 (urtV B Z0 Q))  (v0 : Nat) (v1 : Int32) (v2 : Int64) (Z : jZ) (I : jI) (L : jL) (hZ : SH Z) (hx : jext Z0 Z) (hc : jle Z0 Z) (hb : jin B Z) (kv0 : jk Z v0 7) (h : f_X7_pushSummed_b58 B  Q v0 v1 v2 Z I L) : jJ G 5 58 [(0, .ref v0), (1, .int v1), (2, .long v2)] [] Z I L (jcz Z - jcz Z0) (jsz Z - jsz Z0) := by
  refine j_aload_n E dX7_pushSummed_58 0 rfl ?_
  refine j_iload_n E dX7_pushSummed_59 1 rfl ?_
  refine j_lload_n E dX7_pushSummed_60 2 rfl ?_
  refine ju_callV E [.int v1, .long v2] [] (c_X7_push (gL G) (gD G) (gY G) B v0 v1 v2 Z I L _ hZ hb kv0 h) (gwV W_29 W_30 W_31 W_24 W_28) rfl ⟨rfl, fy_X7_push⟩ ⟨Nat.le_of_ble_eq_true rfl, Nat.le_of_ble_eq_true rfl⟩ (c := 7) rfl (by decide) kv0 rfl rfl (Nat.le_of_ble_eq_true rfl) (ju_f hc hb) dX7_pushSummed_61 (fun v1 Z2 I3 L4 q5 j6 => ?_)
  refine ju_next hc j6 ?_
  have hc := jle_trans hc j6
  obtain ⟨yZ2, hZ2, hbZ2, rfl, h⟩ := q5
  have hZ := hZ2
  have hx : jext Z0 Z2 := jext_trans hx yZ2
  have hb := hbZ2
  have k7 := (yZ2 _ _ kv0).1
  show jJ G 5 64 [(0, .ref v0), (1, .int v1), (2, .long v2)] [] Z2 I3 L4 (jcz Z2 - jcz Z0) (jsz Z2 - jsz Z0)
  exact ju_return E EU hc hb ⟨hx, hZ, hb, rfl, h⟩ dX7_pushSummed_64
set_option maxRecDepth 100000 in
def f_X7_pushSummed (B : Nat × Nat) (v0 : Nat) (v1 : Int32) (v2 : Int64) (Z : jZ) (I : jI) (L : jL) (Q : jZ → jI → jL → Prop) : Prop := (f_X7_sizeAt v0 v1 Z I L (fun r14 I10 L11 => ((r14 ≤ 0 → f_X7_pushSummed_b58 B  Q v0 v1 v2 Z I10 L11) ∧ (¬ (r14 ≤ 0) → (∀ b16 : Nat, jr Z v0 0 = some b16 → (vp_in ((I10 v0 3) - (1 : Int32)) (jlen Z b16) ∧ ((¬ (lg_cmp ((L11 b16 ((I10 v0 3) - (1 : Int32)).toNatClampNeg) &&& (-536870912 : Int64)) (v2 &&& (-536870912 : Int64))) = 0 → f_X7_pushSummed_b58 B  Q v0 v1 v2 Z I10 L11) ∧ ((lg_cmp ((L11 b16 ((I10 v0 3) - (1 : Int32)).toNatClampNeg) &&& (-536870912 : Int64)) (v2 &&& (-536870912 : Int64))) = 0 → (∀ b19 : Nat, jr Z v0 0 = some b19 → (vp_in ((I10 v0 3) - (1 : Int32)) (jlen Z b19) ∧ (vp_in ((I10 v0 3) - (1 : Int32)) (jlen Z b19) ∧ (∀ L22 : jL, L22 = jpL L11 b19 ((I10 v0 3) - (1 : Int32)).toNatClampNeg ((L11 b19 ((I10 v0 3) - (1 : Int32)).toNatClampNeg) + (v2 &&& (536870911 : Int64))) → Q Z I10 L22))))))))))))
set_option maxHeartbeats 4000000 in
set_option maxRecDepth 100000 in
theorem c_X7_pushSummed (l : Launch) (D : va_G) (cy : jC) (B : Nat × Nat) (v0 : Nat) (v1 : Int32) (v2 : Int64) (Z : jZ) (I : jI) (L : jL) (Q : jZ → jI → jL → Prop) (hZ : SH Z) (hb : jin B Z) (kv0 : jk Z v0 7) (h : f_X7_pushSummed B v0 v1 v2 Z I L Q) : jCtU l yX7_pushSummed w_X7_pushSummed B 3 93 D cy [.ref v0, .int v1, .long v2] Z I L (urtV B Z Q) := by
  refine jCtU_of (cc := cX7_pushSummed) (maxL := 5) (ret := none) (by decide +kernel) rfl (Nat.le_of_ble_eq_true rfl) ?_
  intro G eD eY eL E EU
  subst eD; subst eY; subst eL
  have E : jE G cX7_pushSummed RX7 w_X7_pushSummed 5 none (jrm B 3 93 Z) jRF := E
  have hx : jext Z Z := jext_rfl
  have hc : jle Z Z := jle_rfl
  show jJ G 5 0 [(0, .ref v0), (1, .int v1), (2, .long v2)] [] Z I L (jcz Z - jcz Z) (jsz Z - jsz Z)
  refine j_aload_n E dX7_pushSummed_0 0 rfl ?_
  refine j_iload_n E dX7_pushSummed_1 1 rfl ?_
  refine j_callV E [.int v1] [] (c_X7_sizeAt (gL G) (gD G) (gY G) v0 v1 Z I L _ hZ kv0 h) (gwV W_43 W_44 W_45 W_24 W_42) rfl ⟨rfl, fy_X7_sizeAt⟩ ⟨Nat.le_of_ble_eq_true rfl, Nat.le_of_ble_eq_true rfl⟩ (c := 7) rfl (by decide) kv0 rfl rfl (Nat.le_of_ble_eq_true rfl) (ju_kn hb) dX7_pushSummed_2 (fun v8 Z9 I10 L11 q12 => ?_)
  obtain ⟨rfl, r14, rfl, h⟩ := q12
  show jJ G 5 5 [(0, .ref v0), (1, .int v1), (2, .long v2)] [.int r14] Z I10 L11 (jcz Z - jcz Z) (jsz Z - jsz Z)
  refine j_istore E 4 [(4, .int r14), (0, .ref v0), (1, .int v1), (2, .long v2)] dX7_pushSummed_5 (by decide) rfl ?_
  refine j_iload E dX7_pushSummed_7 0 rfl ?_
  refine j_if_le E 58 dX7_pushSummed_9 (by decide) (fun c15 => ?_) (fun c15 => ?_)
  · have h := h.1 c15
    refine j_sub [1, 2, 3] rfl ?_
    exact m_X7_pushSummed_b58 E EU  v0 v1 v2 Z I10 L11 hZ hx hc hb kv0 h
  · have h := h.2 c15
    refine j_aload_n E dX7_pushSummed_12 1 rfl ?_
    obtain ⟨b16, eb16, kb16⟩ := sh_o hZ kv0 (j := 0) (k := 15) rfl
    have h := h b16 eb16
    refine j_getr E 7 0 rfl rfl (by decide) (by decide) (iw iT_7) rfl rfl (tw W_14) kv0 eb16 dX7_pushSummed_13 ?_
    refine j_aload_n E dX7_pushSummed_16 1 rfl ?_
    refine j_geti E 7 3 rfl rfl (by decide) (by decide) (iw iT_7) rfl rfl (tw W_3) kv0 dX7_pushSummed_17 ?_
    refine j_iconst E (v := 1) dX7_pushSummed_20 (by decide) ?_
    refine j_isub E dX7_pushSummed_21 ?_
    obtain ⟨o17, h⟩ := h
    refine j_lald E kb16 o17 dX7_pushSummed_22 ?_
    refine j_ldc2 E (tw W_105) dX7_pushSummed_23 ?_
    refine j_land E dX7_pushSummed_26 ?_
    refine j_lload_n E dX7_pushSummed_27 3 rfl ?_
    refine j_ldc2 E (tw W_105) dX7_pushSummed_28 ?_
    refine j_land E dX7_pushSummed_31 ?_
    refine j_lcmp E dX7_pushSummed_32 ?_
    refine j_if_ne E 58 dX7_pushSummed_33 (by decide) (fun c18 => ?_) (fun c18 => ?_)
    · have h := h.1 c18
      refine j_sub [1, 2, 3] rfl ?_
      exact m_X7_pushSummed_b58 E EU  v0 v1 v2 Z I10 L11 hZ hx hc hb kv0 h
    · have h := h.2 c18
      refine j_aload_n E dX7_pushSummed_36 1 rfl ?_
      obtain ⟨b19, eb19, kb19⟩ := sh_o hZ kv0 (j := 0) (k := 15) rfl
      have h := h b19 eb19
      refine j_getr E 7 0 rfl rfl (by decide) (by decide) (iw iT_7) rfl rfl (tw W_14) kv0 eb19 dX7_pushSummed_37 ?_
      refine j_aload_n E dX7_pushSummed_40 1 rfl ?_
      refine j_geti E 7 3 rfl rfl (by decide) (by decide) (iw iT_7) rfl rfl (tw W_3) kv0 dX7_pushSummed_41 ?_
      refine j_iconst E (v := 1) dX7_pushSummed_44 (by decide) ?_
      refine j_isub E dX7_pushSummed_45 ?_
      refine j_dup2_11 E dX7_pushSummed_46 rfl rfl ?_
      obtain ⟨o20, h⟩ := h
      refine j_lald E kb19 o20 dX7_pushSummed_47 ?_
      refine j_lload_n E dX7_pushSummed_48 3 rfl ?_
      refine j_ldc2 E (tw W_106) dX7_pushSummed_49 ?_
      refine j_land E dX7_pushSummed_52 ?_
      refine j_ladd E dX7_pushSummed_53 ?_
      obtain ⟨o21, h⟩ := h
      refine j_last E kb19 o21 dX7_pushSummed_54 ?_
      refine j_nmL (fun L22 eL22 => ?_)
      have h := h L22 eL22
      refine j_goto E 64 dX7_pushSummed_55 (by decide) ?_
      exact ju_return E EU hc hb ⟨hx, hZ, hb, rfl, h⟩ dX7_pushSummed_64
set_option maxRecDepth 100000 in
def f_X0_keepOnTheWay_b71 (B : Nat × Nat) (K9 : Nat → Int32 → Int32 → Int32 → Int32 → jZ → jI → jL → Prop) (Q : jZ → jI → jL → Prop) (v0 : Nat) (v1 : Int32) (v2 : Int32) (v3 : Int32) (v4 : Int32) (Z : jZ) (I : jI) (L : jL) : Prop := (∀ x1 : Int32, x1 = v4 + (-1) → K9 v0 v1 v2 v3 x1 Z I L)
set_option maxHeartbeats 4000000 in
set_option maxRecDepth 100000 in
theorem m_X0_keepOnTheWay_b71 {G : jG} {B : Nat × Nat} {Z0 : jZ} {Q : jZ → jI → jL → Prop} (E : jE G cX0_keepOnTheWay RX0 w_X0_keepOnTheWay 8 none (jrm B 4 117 Z0) jRF) (EU : jEU G B Z0 (urtV B Z0 Q)) (K9 : Nat → Int32 → Int32 → Int32 → Int32 → jZ → jI → jL → Prop) (hK9 : ∀ (v0 : Nat) (v1 : Int32) (v2 : Int32) (v3 : Int32) (v4 : Int32) (Z : jZ) (I : jI) (L : jL), SH Z → jext Z0 Z → jle Z0 Z → jin B Z → jk Z v0 0 → K9 v0 v1 v2 v3 v4 Z I L → jJ G 8 9 [(0, .ref v0), (1, .int v1), (2, .int v2), (3, .int v3), (4, .int v4)] [] Z I L (jcz Z - jcz Z0) (jsz Z - jsz Z0)) (v0 : Nat) (v1 : Int32) (v2 : Int32) (v3 : Int32) (v4 : Int32) (Z : jZ) (I : jI) (L : jL) (hZ : SH Z) (hx : jext Z0 Z) (hc : jle Z0 Z) (hb : jin B Z) (kv0 : jk Z v0 0) (h : f_X0_keepOnTheWay_b71 B K9 Q v0 v1 v2 v3 v4 Z I L) : jJ G 8 71 [(0, .ref v0), (1, .int v1), (2, .int v2), (3, .int v3), (4, .int v4)] [] Z I L (jcz Z - jcz Z0) (jsz Z - jsz Z0) := by
  obtain ⟨x1, ex1⟩ : ∃ y : Int32, y = v4 + (-1) := ⟨_, rfl⟩
  have h := h x1 ex1
  refine j_iinc E x1 [(4, .int x1), (0, .ref v0), (1, .int v1), (2, .int v2), (3, .int v3)] dX0_keepOnTheWay_71 4 rfl (by rw [ex1]; rfl) (by decide) rfl ?_
  refine j_goto E 9 dX0_keepOnTheWay_74 (by decide) ?_
  refine j_sub [1, 2, 3, 4, 0] rfl ?_
  exact hK9 v0 v1 v2 v3 x1 Z I L hZ hx hc hb kv0 h
set_option maxRecDepth 100000 in
def f_X0_keepOnTheWay_L9 (B : Nat × Nat)  (Q : jZ → jI → jL → Prop) : Nat → Nat → Int32 → Int32 → Int32 → Int32 → jZ → jI → jL → Prop
  | 0 => fun _ _ _ _ _ _ _ _ => False
  | n + 1 => fun v0 v1 v2 v3 v4 Z I L => ((v4 ≤ 0 → Q Z I L) ∧ (¬ (v4 ≤ 0) → ((v2 < 0 → Q Z I L) ∧ (¬ (v2 < 0) → (∀ b4 : Nat, jr Z v0 0 = some b4 → (f_X7_take b4 Z I L (fun r11 I7 L8 => (f_X11_costIn r11 Z I7 L8 (fun r18 I14 L15 => (∀ x19 : Int32, x19 = (v3 - r18) → ((0 ≤ x19 → (f_X11_effortIn r11 Z I14 L15 (fun r27 I23 L24 => ((v2 < r27 → f_X0_keepOnTheWay_b71 B (f_X0_keepOnTheWay_L9 B Q n) Q v0 v1 v2 v3 v4 Z I23 L24) ∧ (¬ (v2 < r27) → (f_X0_isInReach v0 v1 x19 Z I23 L24 (fun r35 I31 L32 => ((r35 = 0 → f_X0_keepOnTheWay_b71 B (f_X0_keepOnTheWay_L9 B Q n) Q v0 v1 v2 v3 v4 Z I31 L32) ∧ (¬ (r35 = 0) → (∀ b37 : Nat, jr Z v0 0 = some b37 → (f_X7_pushSummed B b37 v1 r11 Z I31 L32 (fun Z39 I40 L41 => f_X0_keepOnTheWay_b71 B (f_X0_keepOnTheWay_L9 B Q n) Q v0 v1 v2 v3 v4 Z39 I40 L41)))))))))))) ∧ (¬ (0 ≤ x19) → Q Z I14 L15))))))))))))
set_option maxHeartbeats 4000000 in
set_option maxRecDepth 100000 in
theorem m_X0_keepOnTheWay_L9 {G : jG} {Z0 : jZ} {B : Nat × Nat} {Q : jZ → jI → jL → Prop} (E : jE G cX0_keepOnTheWay RX0 w_X0_keepOnTheWay 8 none (jrm B 4 117 Z0) jRF) (EU : jEU G B Z0 (urtV B Z0 Q))  : ∀ (n : Nat) (v0 : Nat) (v1 : Int32) (v2 : Int32) (v3 : Int32) (v4 : Int32) (Z : jZ) (I : jI) (L : jL), SH Z → jext Z0 Z → jle Z0 Z → jin B Z → jk Z v0 0 → f_X0_keepOnTheWay_L9 B  Q n v0 v1 v2 v3 v4 Z I L → jJ G 8 9 [(0, .ref v0), (1, .int v1), (2, .int v2), (3, .int v3), (4, .int v4)] [] Z I L (jcz Z - jcz Z0) (jsz Z - jsz Z0) := by
  intro n
  induction n with
  | zero => intro v0 v1 v2 v3 v4 Z I L _ _ _ _ _ h; exact h.elim
  | succ n ih =>
    intro v0 v1 v2 v3 v4 Z I L hZ hx hc hb kv0 h
    have h : ((v4 ≤ 0 → Q Z I L) ∧ (¬ (v4 ≤ 0) → ((v2 < 0 → Q Z I L) ∧ (¬ (v2 < 0) → (∀ b4 : Nat, jr Z v0 0 = some b4 → (f_X7_take b4 Z I L (fun r11 I7 L8 => (f_X11_costIn r11 Z I7 L8 (fun r18 I14 L15 => (∀ x19 : Int32, x19 = (v3 - r18) → ((0 ≤ x19 → (f_X11_effortIn r11 Z I14 L15 (fun r27 I23 L24 => ((v2 < r27 → f_X0_keepOnTheWay_b71 B (f_X0_keepOnTheWay_L9 B Q n) Q v0 v1 v2 v3 v4 Z I23 L24) ∧ (¬ (v2 < r27) → (f_X0_isInReach v0 v1 x19 Z I23 L24 (fun r35 I31 L32 => ((r35 = 0 → f_X0_keepOnTheWay_b71 B (f_X0_keepOnTheWay_L9 B Q n) Q v0 v1 v2 v3 v4 Z I31 L32) ∧ (¬ (r35 = 0) → (∀ b37 : Nat, jr Z v0 0 = some b37 → (f_X7_pushSummed B b37 v1 r11 Z I31 L32 (fun Z39 I40 L41 => f_X0_keepOnTheWay_b71 B (f_X0_keepOnTheWay_L9 B Q n) Q v0 v1 v2 v3 v4 Z39 I40 L41)))))))))))) ∧ (¬ (0 ≤ x19) → Q Z I14 L15)))))))))))) := h
    obtain ⟨K9, eK9⟩ : ∃ K : Nat → Int32 → Int32 → Int32 → Int32 → jZ → jI → jL → Prop, K = f_X0_keepOnTheWay_L9 B  Q n := ⟨_, rfl⟩
    have hK9 := ih
    clear eK9 K9
    generalize f_X0_keepOnTheWay_L9 B  Q n = K9 at hK9 h
    refine j_iload E dX0_keepOnTheWay_9 4 rfl ?_
    refine j_if_le E 77 dX0_keepOnTheWay_11 (by decide) (fun c2 => ?_) (fun c2 => ?_)
    · have h := h.1 c2
      exact ju_return E EU hc hb ⟨hx, hZ, hb, rfl, h⟩ dX0_keepOnTheWay_77
    · have h := h.2 c2
      refine j_iload_n E dX0_keepOnTheWay_14 2 rfl ?_
      refine j_if_lt E 77 dX0_keepOnTheWay_15 (by decide) (fun c3 => ?_) (fun c3 => ?_)
      · have h := h.1 c3
        exact ju_return E EU hc hb ⟨hx, hZ, hb, rfl, h⟩ dX0_keepOnTheWay_77
      · have h := h.2 c3
        refine j_aload_n E dX0_keepOnTheWay_18 0 rfl ?_
        obtain ⟨b4, eb4, kb4⟩ := sh_o hZ kv0 (j := 0) (k := 7) rfl
        have h := h b4 eb4
        refine j_getr E 0 0 rfl rfl (by decide) (by decide) (iw iT_0) rfl rfl (tw W_70) kv0 eb4 dX0_keepOnTheWay_19 ?_
        refine j_callV E [] [] (c_X7_take (gL G) (gD G) (gY G) b4 Z I L _ hZ kb4 h) (gwV W_107 W_64 W_65 W_24 W_62) rfl ⟨rfl, fy_X7_take⟩ ⟨Nat.le_of_ble_eq_true rfl, Nat.le_of_ble_eq_true rfl⟩ (c := 7) rfl (by decide) kb4 rfl rfl (Nat.le_of_ble_eq_true rfl) (ju_kn hb) dX0_keepOnTheWay_22 (fun v5 Z6 I7 L8 q9 => ?_)
        obtain ⟨rfl, r11, rfl, h⟩ := q9
        show jJ G 8 25 [(0, .ref v0), (1, .int v1), (2, .int v2), (3, .int v3), (4, .int v4)] [.long r11] Z I7 L8 (jcz Z - jcz Z0) (jsz Z - jsz Z0)
        refine j_lstore E 5 [(5, .long r11), (0, .ref v0), (1, .int v1), (2, .int v2), (3, .int v3), (4, .int v4)] dX0_keepOnTheWay_25 (by decide) rfl ?_
        refine j_iload_n E dX0_keepOnTheWay_27 4 rfl ?_
        refine j_lload E dX0_keepOnTheWay_28 0 rfl ?_
        refine j_callSN E [.long r11] [.int v3] (c_X11_costIn (gL G) (gD G) (gY G) r11 Z I7 L8 _ hZ  h) (gwN W_66) rfl (nm_X11_costIn_X0_71) (tw W_40) (tw W_67) fy_X11_costIn ⟨Nat.le_of_ble_eq_true rfl, Nat.le_of_ble_eq_true rfl⟩ rfl rfl (Nat.le_of_ble_eq_true rfl) (ju_kn hb) dX0_keepOnTheWay_30 (fun v12 Z13 I14 L15 q16 => ?_)
        obtain ⟨rfl, r18, rfl, h⟩ := q16
        show jJ G 8 33 [(5, .long r11), (0, .ref v0), (1, .int v1), (2, .int v2), (3, .int v3), (4, .int v4)] [.int r18, .int v3] Z I14 L15 (jcz Z - jcz Z0) (jsz Z - jsz Z0)
        refine j_isub E dX0_keepOnTheWay_33 ?_
        refine j_topi (fun x19 ex19 => ?_)
        have h := h x19 ex19
        refine j_istore E 7 [(7, .int x19), (5, .long r11), (0, .ref v0), (1, .int v1), (2, .int v2), (3, .int v3), (4, .int v4)] dX0_keepOnTheWay_34 (by decide) rfl ?_
        refine j_iload E dX0_keepOnTheWay_36 0 rfl ?_
        refine j_if_ge E 42 dX0_keepOnTheWay_38 (by decide) (fun c20 => ?_) (fun c20 => ?_)
        · have h := h.1 c20
          refine j_lload E dX0_keepOnTheWay_42 1 rfl ?_
          refine j_callSN E [.long r11] [] (c_X11_effortIn (gL G) (gD G) (gY G) r11 Z I14 L15 _ hZ  h) (gwN W_68) rfl (nm_X11_effortIn_X0_93) (tw W_40) (tw W_69) fy_X11_effortIn ⟨Nat.le_of_ble_eq_true rfl, Nat.le_of_ble_eq_true rfl⟩ rfl rfl (Nat.le_of_ble_eq_true rfl) (ju_kn hb) dX0_keepOnTheWay_44 (fun v21 Z22 I23 L24 q25 => ?_)
          obtain ⟨rfl, r27, rfl, h⟩ := q25
          show jJ G 8 47 [(7, .int x19), (5, .long r11), (0, .ref v0), (1, .int v1), (2, .int v2), (3, .int v3), (4, .int v4)] [.int r27] Z I23 L24 (jcz Z - jcz Z0) (jsz Z - jsz Z0)
          refine j_iload_n E dX0_keepOnTheWay_47 4 rfl ?_
          refine j_icmp_gt E 71 dX0_keepOnTheWay_48 (by decide) (fun c28 => ?_) (fun c28 => ?_)
          · have h := h.1 c28
            refine j_sub [2, 3, 4, 5, 6] rfl ?_
            exact m_X0_keepOnTheWay_b71 E EU K9 hK9 v0 v1 v2 v3 v4 Z I23 L24 hZ hx hc hb kv0 h
          · have h := h.2 c28
            refine j_aload_n E dX0_keepOnTheWay_51 2 rfl ?_
            refine j_iload_n E dX0_keepOnTheWay_52 3 rfl ?_
            refine j_iload E dX0_keepOnTheWay_53 0 rfl ?_
            refine j_callV E [.int v1, .int x19] [] (c_X0_isInReach (gL G) (gD G) (gY G) v0 v1 x19 Z I23 L24 _ hZ kv0 h) (gwV W_109 W_110 W_111 W_98 W_108) rfl ⟨rfl, fy_X0_isInReach⟩ ⟨Nat.le_of_ble_eq_true rfl, Nat.le_of_ble_eq_true rfl⟩ (c := 0) rfl (by decide) kv0 rfl rfl (Nat.le_of_ble_eq_true rfl) (ju_kn hb) dX0_keepOnTheWay_55 (fun v29 Z30 I31 L32 q33 => ?_)
            obtain ⟨rfl, r35, rfl, zr35, h⟩ := q33
            show jJ G 8 58 [(7, .int x19), (5, .long r11), (0, .ref v0), (1, .int v1), (2, .int v2), (3, .int v3), (4, .int v4)] [.int r35] Z I31 L32 (jcz Z - jcz Z0) (jsz Z - jsz Z0)
            refine j_if_eq E 71 dX0_keepOnTheWay_58 (by decide) (fun c36 => ?_) (fun c36 => ?_)
            · have h := h.1 c36
              refine j_sub [2, 3, 4, 5, 6] rfl ?_
              exact m_X0_keepOnTheWay_b71 E EU K9 hK9 v0 v1 v2 v3 v4 Z I31 L32 hZ hx hc hb kv0 h
            · have h := h.2 c36
              refine j_aload_n E dX0_keepOnTheWay_61 2 rfl ?_
              obtain ⟨b37, eb37, kb37⟩ := sh_o hZ kv0 (j := 0) (k := 7) rfl
              have h := h b37 eb37
              refine j_getr E 0 0 rfl rfl (by decide) (by decide) (iw iT_0) rfl rfl (tw W_70) kv0 eb37 dX0_keepOnTheWay_62 ?_
              refine j_iload_n E dX0_keepOnTheWay_65 3 rfl ?_
              refine j_lload E dX0_keepOnTheWay_66 1 rfl ?_
              refine ju_callV E [.int v1, .long r11] [] (c_X7_pushSummed (gL G) (gD G) (gY G) B b37 v1 r11 Z I31 L32 _ hZ hb kb37 h) (gwV W_113 W_114 W_115 W_24 W_112) rfl ⟨rfl, fy_X7_pushSummed⟩ ⟨Nat.le_of_ble_eq_true rfl, Nat.le_of_ble_eq_true rfl⟩ (c := 7) rfl (by decide) kb37 rfl rfl (Nat.le_of_ble_eq_true rfl) (ju_f hc hb) dX0_keepOnTheWay_68 (fun v38 Z39 I40 L41 q42 j43 => ?_)
              refine ju_next hc j43 ?_
              have hc := jle_trans hc j43
              obtain ⟨yZ39, hZ39, hbZ39, rfl, h⟩ := q42
              have hZ := hZ39
              have hx : jext Z0 Z39 := jext_trans hx yZ39
              have hb := hbZ39
              have k44 := (yZ39 _ _ kv0).1
              show jJ G 8 71 [(7, .int x19), (5, .long r11), (0, .ref v0), (1, .int v1), (2, .int v2), (3, .int v3), (4, .int v4)] [] Z39 I40 L41 (jcz Z39 - jcz Z0) (jsz Z39 - jsz Z0)
              refine j_sub [2, 3, 4, 5, 6] rfl ?_
              exact m_X0_keepOnTheWay_b71 E EU K9 hK9 v0 v1 v2 v3 v4 Z39 I40 L41 hZ hx hc hb k44 h
        · have h := h.2 c20
          exact ju_return E EU hc hb ⟨hx, hZ, hb, rfl, h⟩ dX0_keepOnTheWay_41
set_option maxRecDepth 100000 in
def f_X0_keepOnTheWay (B : Nat × Nat) (v0 : Nat) (v1 : Int32) (v2 : Int32) (v3 : Int32) (Z : jZ) (I : jI) (L : jL) (Q : jZ → jI → jL → Prop) : Prop := (∀ b45 : Nat, jr Z v0 0 = some b45 → (∀ x46 : Int32, x46 = (I b45 9) → (∃ m9 : Nat, f_X0_keepOnTheWay_L9 B  Q m9 v0 v1 v2 v3 x46 Z I L)))
set_option maxHeartbeats 4000000 in
set_option maxRecDepth 100000 in
theorem c_X0_keepOnTheWay (l : Launch) (D : va_G) (cy : jC) (B : Nat × Nat) (v0 : Nat) (v1 : Int32) (v2 : Int32) (v3 : Int32) (Z : jZ) (I : jI) (L : jL) (Q : jZ → jI → jL → Prop) (hZ : SH Z) (hb : jin B Z) (kv0 : jk Z v0 0) (h : f_X0_keepOnTheWay B v0 v1 v2 v3 Z I L Q) : jCtU l yX0_keepOnTheWay w_X0_keepOnTheWay B 4 117 D cy [.ref v0, .int v1, .int v2, .int v3] Z I L (urtV B Z Q) := by
  refine jCtU_of (cc := cX0_keepOnTheWay) (maxL := 8) (ret := none) (by decide +kernel) rfl (Nat.le_of_ble_eq_true rfl) ?_
  intro G eD eY eL E EU
  subst eD; subst eY; subst eL
  have E : jE G cX0_keepOnTheWay RX0 w_X0_keepOnTheWay 8 none (jrm B 4 117 Z) jRF := E
  have hx : jext Z Z := jext_rfl
  have hc : jle Z Z := jle_rfl
  show jJ G 8 0 [(0, .ref v0), (1, .int v1), (2, .int v2), (3, .int v3)] [] Z I L (jcz Z - jcz Z) (jsz Z - jsz Z)
  refine j_aload_n E dX0_keepOnTheWay_0 0 rfl ?_
  obtain ⟨b45, eb45, kb45⟩ := sh_o hZ kv0 (j := 0) (k := 7) rfl
  have h := h b45 eb45
  refine j_getr E 0 0 rfl rfl (by decide) (by decide) (iw iT_0) rfl rfl (tw W_70) kv0 eb45 dX0_keepOnTheWay_1 ?_
  refine j_getiN E 7 9 rfl rfl (by decide) (by decide) (iw iT_7) rfl rfl (nw_7_9_X0_86) kb45 dX0_keepOnTheWay_4 ?_
  refine j_topi (fun x46 ex46 => ?_)
  have h := h x46 ex46
  refine j_istore E 4 [(4, .int x46), (0, .ref v0), (1, .int v1), (2, .int v2), (3, .int v3)] dX0_keepOnTheWay_7 (by decide) rfl ?_
  obtain ⟨n47, h⟩ := h
  refine j_sub [1, 2, 3, 4, 0] rfl ?_
  exact m_X0_keepOnTheWay_L9 E EU  n47 v0 v1 v2 v3 x46 Z I L hZ hx hc hb kv0 h
set_option maxRecDepth 100000 in
def f_X0_tally_b33 (B : Nat × Nat)  (Q : Int64 → jZ → jI → jL → Prop)  (Z : jZ) (I : jI) (L : jL) : Prop := Q (0 : Int64) Z I L
set_option maxHeartbeats 4000000 in
set_option maxRecDepth 100000 in
theorem m_X0_tally_b33 {G : jG} {B : Nat × Nat} {Z0 : jZ} {Q : Int64 → jZ → jI → jL → Prop} (E : jE G cX0_tally RX0 w_X0_tally 9 (some .long) (jrm B 5 144 Z0) jRF) (EU : jEU G B Z0 (urtL B Z0 Q))   (Z : jZ) (I : jI) (L : jL) (hZ : SH Z) (hx : jext Z0 Z) (hc : jle Z0 Z) (hb : jin B Z)  (h : f_X0_tally_b33 B  Q  Z I L) : jJ G 9 33 [] [] Z I L (jcz Z - jcz Z0) (jsz Z - jsz Z0) := by
  refine j_lconst E (v := 0) dX0_tally_33 (by decide) ?_
  exact ju_lreturn E EU hc hb ⟨hx, hZ, hb, _, rfl, h⟩ dX0_tally_34
set_option maxRecDepth 100000 in
def f_X0_tally_b163 (B : Nat × Nat) (K106 : Nat → Nat → Int64 → Int32 → jZ → jI → jL → Prop) (Q : Int64 → jZ → jI → jL → Prop) (v0 : Nat) (v1 : Nat) (v4 : Int64) (v6 : Int32) (s0 : Nat) (s1 : Int64) (Z : jZ) (I : jI) (L : jL) : Prop := (∀ L1 : jL, L1 = jpL L s0 2 s1 → (∀ x2 : Int32, x2 = v6 + 1 → K106 v0 v1 v4 x2 Z I L1))
set_option maxHeartbeats 4000000 in
set_option maxRecDepth 100000 in
theorem m_X0_tally_b163 {G : jG} {B : Nat × Nat} {Z0 : jZ} {Q : Int64 → jZ → jI → jL → Prop} (E : jE G cX0_tally RX0 w_X0_tally 9 (some .long) (jrm B 5 144 Z0) jRF) (EU : jEU G B Z0 (urtL B Z0 Q)) (K106 : Nat → Nat → Int64 → Int32 → jZ → jI → jL → Prop) (hK106 : ∀ (v0 : Nat) (v1 : Nat) (v4 : Int64) (v6 : Int32) (Z : jZ) (I : jI) (L : jL), SH Z → jext Z0 Z → jle Z0 Z → jin B Z → jk Z v0 0 → jk Z v1 6 → K106 v0 v1 v4 v6 Z I L → jJ G 9 106 [(0, .ref v0), (1, .ref v1), (4, .long v4), (6, .int v6)] [] Z I L (jcz Z - jcz Z0) (jsz Z - jsz Z0)) (v0 : Nat) (v1 : Nat) (v4 : Int64) (v6 : Int32) (s0 : Nat) (s1 : Int64) (Z : jZ) (I : jI) (L : jL) (hZ : SH Z) (hx : jext Z0 Z) (hc : jle Z0 Z) (hb : jin B Z) (kv0 : jk Z v0 0) (kv1 : jk Z v1 6) (ks0 : jk Z s0 0) (h : f_X0_tally_b163 B K106 Q v0 v1 v4 v6 s0 s1 Z I L) : jJ G 9 163 [(0, .ref v0), (1, .ref v1), (4, .long v4), (6, .int v6)] [.long s1, .ref s0] Z I L (jcz Z - jcz Z0) (jsz Z - jsz Z0) := by
  refine j_putl E 0 2 rfl rfl (by decide) (by decide) (iw iT_0) tyX0_ok nmX0 rfl rfl (tw W_116) rfl ks0 dX0_tally_163 ?_
  refine j_nmL (fun L1 eL1 => ?_)
  have h := h L1 eL1
  obtain ⟨x2, ex2⟩ : ∃ y : Int32, y = v6 + 1 := ⟨_, rfl⟩
  have h := h x2 ex2
  refine j_iinc E x2 [(6, .int x2), (0, .ref v0), (1, .ref v1), (4, .long v4)] dX0_tally_166 3 rfl (by rw [ex2]; rfl) (by decide) rfl ?_
  refine j_goto E 106 dX0_tally_169 (by decide) ?_
  refine j_sub [1, 2, 3, 0] rfl ?_
  exact hK106 v0 v1 v4 x2 Z I L1 hZ hx hc hb kv0 kv1 h
set_option maxRecDepth 100000 in
def f_X0_tally_L106 (B : Nat × Nat)  (Q : Int64 → jZ → jI → jL → Prop) : Nat → Nat → Nat → Int64 → Int32 → jZ → jI → jL → Prop
  | 0 => fun _ _ _ _ _ _ _ => False
  | n + 1 => fun v0 v1 v4 v6 Z I L => (∀ b3 : Nat, jr Z v0 0 = some b3 → (f_X7_sizeAt b3 (I v1 15) Z I L (fun r10 I6 L7 => ((r10 ≤ v6 → Q v4 Z I6 L7) ∧ (¬ (r10 ≤ v6) → (∀ b12 : Nat, jr Z v0 0 = some b12 → (f_X7_keyAt b12 (I6 v1 15) v6 Z I6 L7 (fun r19 I15 L16 => (∀ x20 : Int64, x20 = (r19 &&& (536870911 : Int64)) → (∀ x21 : Int64, x21 = (v4 + x20) → ((¬ v6 = 0 → f_X0_tally_b163 B (f_X0_tally_L106 B Q n) Q v0 v1 x21 v6 v0 (L16 v0 2) Z I15 L16) ∧ (v6 = 0 → f_X0_tally_b163 B (f_X0_tally_L106 B Q n) Q v0 v1 x21 v6 v0 x20 Z I15 L16))))))))))))
set_option maxHeartbeats 4000000 in
set_option maxRecDepth 100000 in
theorem m_X0_tally_L106 {G : jG} {Z0 : jZ} {B : Nat × Nat} {Q : Int64 → jZ → jI → jL → Prop} (E : jE G cX0_tally RX0 w_X0_tally 9 (some .long) (jrm B 5 144 Z0) jRF) (EU : jEU G B Z0 (urtL B Z0 Q))  : ∀ (n : Nat) (v0 : Nat) (v1 : Nat) (v4 : Int64) (v6 : Int32) (Z : jZ) (I : jI) (L : jL), SH Z → jext Z0 Z → jle Z0 Z → jin B Z → jk Z v0 0 → jk Z v1 6 → f_X0_tally_L106 B  Q n v0 v1 v4 v6 Z I L → jJ G 9 106 [(0, .ref v0), (1, .ref v1), (4, .long v4), (6, .int v6)] [] Z I L (jcz Z - jcz Z0) (jsz Z - jsz Z0) := by
  intro n
  induction n with
  | zero => intro v0 v1 v4 v6 Z I L _ _ _ _ _ _ h; exact h.elim
  | succ n ih =>
    intro v0 v1 v4 v6 Z I L hZ hx hc hb kv0 kv1 h
    have h : (∀ b3 : Nat, jr Z v0 0 = some b3 → (f_X7_sizeAt b3 (I v1 15) Z I L (fun r10 I6 L7 => ((r10 ≤ v6 → Q v4 Z I6 L7) ∧ (¬ (r10 ≤ v6) → (∀ b12 : Nat, jr Z v0 0 = some b12 → (f_X7_keyAt b12 (I6 v1 15) v6 Z I6 L7 (fun r19 I15 L16 => (∀ x20 : Int64, x20 = (r19 &&& (536870911 : Int64)) → (∀ x21 : Int64, x21 = (v4 + x20) → ((¬ v6 = 0 → f_X0_tally_b163 B (f_X0_tally_L106 B Q n) Q v0 v1 x21 v6 v0 (L16 v0 2) Z I15 L16) ∧ (v6 = 0 → f_X0_tally_b163 B (f_X0_tally_L106 B Q n) Q v0 v1 x21 v6 v0 x20 Z I15 L16)))))))))))) := h
    obtain ⟨K106, eK106⟩ : ∃ K : Nat → Nat → Int64 → Int32 → jZ → jI → jL → Prop, K = f_X0_tally_L106 B  Q n := ⟨_, rfl⟩
    have hK106 := ih
    clear eK106 K106
    generalize f_X0_tally_L106 B  Q n = K106 at hK106 h
    refine j_iload E dX0_tally_106 3 rfl ?_
    refine j_aload_n E dX0_tally_108 0 rfl ?_
    obtain ⟨b3, eb3, kb3⟩ := sh_o hZ kv0 (j := 0) (k := 7) rfl
    have h := h b3 eb3
    refine j_getr E 0 0 rfl rfl (by decide) (by decide) (iw iT_0) rfl rfl (tw W_70) kv0 eb3 dX0_tally_109 ?_
    refine j_aload_n E dX0_tally_112 1 rfl ?_
    refine j_getiN E 6 15 rfl rfl (by decide) (by decide) (iw iT_6) rfl rfl (nw_6_15_X0_32) kv1 dX0_tally_113 ?_
    refine j_callV E [.int (I v1 15)] [.int v6] (c_X7_sizeAt (gL G) (gD G) (gY G) b3 (I v1 15) Z I L _ hZ kb3 h) (gwV W_71 W_44 W_45 W_24 W_42) rfl ⟨rfl, fy_X7_sizeAt⟩ ⟨Nat.le_of_ble_eq_true rfl, Nat.le_of_ble_eq_true rfl⟩ (c := 7) rfl (by decide) kb3 rfl rfl (Nat.le_of_ble_eq_true rfl) (ju_kn hb) dX0_tally_116 (fun v4 Z5 I6 L7 q8 => ?_)
    obtain ⟨rfl, r10, rfl, h⟩ := q8
    show jJ G 9 119 [(0, .ref v0), (1, .ref v1), (4, .long v4), (6, .int v6)] [.int r10, .int v6] Z I6 L7 (jcz Z - jcz Z0) (jsz Z - jsz Z0)
    refine j_icmp_ge E 172 dX0_tally_119 (by decide) (fun c11 => ?_) (fun c11 => ?_)
    · have h := h.1 c11
      refine j_lload E dX0_tally_172 2 rfl ?_
      exact ju_lreturn E EU hc hb ⟨hx, hZ, hb, _, rfl, h⟩ dX0_tally_174
    · have h := h.2 c11
      refine j_aload_n E dX0_tally_122 0 rfl ?_
      obtain ⟨b12, eb12, kb12⟩ := sh_o hZ kv0 (j := 0) (k := 7) rfl
      have h := h b12 eb12
      refine j_getr E 0 0 rfl rfl (by decide) (by decide) (iw iT_0) rfl rfl (tw W_70) kv0 eb12 dX0_tally_123 ?_
      refine j_aload_n E dX0_tally_126 1 rfl ?_
      refine j_getiN E 6 15 rfl rfl (by decide) (by decide) (iw iT_6) rfl rfl (nw_6_15_X0_32) kv1 dX0_tally_127 ?_
      refine j_iload E dX0_tally_130 3 rfl ?_
      refine j_callV E [.int (I6 v1 15), .int v6] [] (c_X7_keyAt (gL G) (gD G) (gY G) b12 (I6 v1 15) v6 Z I6 L7 _ hZ kb12 h) (gwV W_73 W_74 W_75 W_24 W_72) rfl ⟨rfl, fy_X7_keyAt⟩ ⟨Nat.le_of_ble_eq_true rfl, Nat.le_of_ble_eq_true rfl⟩ (c := 7) rfl (by decide) kb12 rfl rfl (Nat.le_of_ble_eq_true rfl) (ju_kn hb) dX0_tally_132 (fun v13 Z14 I15 L16 q17 => ?_)
      obtain ⟨rfl, r19, rfl, h⟩ := q17
      show jJ G 9 135 [(0, .ref v0), (1, .ref v1), (4, .long v4), (6, .int v6)] [.long r19] Z I15 L16 (jcz Z - jcz Z0) (jsz Z - jsz Z0)
      refine j_ldc2 E (tw W_117) dX0_tally_135 ?_
      refine j_land E dX0_tally_138 ?_
      refine j_topl (fun x20 ex20 => ?_)
      have h := h x20 ex20
      refine j_lstore E 7 [(7, .long x20), (0, .ref v0), (1, .ref v1), (4, .long v4), (6, .int v6)] dX0_tally_139 (by decide) rfl ?_
      refine j_lload E dX0_tally_141 3 rfl ?_
      refine j_lload E dX0_tally_143 0 rfl ?_
      refine j_ladd E dX0_tally_145 ?_
      refine j_topl (fun x21 ex21 => ?_)
      have h := h x21 ex21
      refine j_lstore E 4 [(4, .long x21), (7, .long x20), (0, .ref v0), (1, .ref v1), (6, .int v6)] dX0_tally_146 (by decide) rfl ?_
      refine j_aload_n E dX0_tally_148 2 rfl ?_
      refine j_iload E dX0_tally_149 4 rfl ?_
      refine j_if_ne E 159 dX0_tally_151 (by decide) (fun c22 => ?_) (fun c22 => ?_)
      · have h := h.1 c22
        refine j_aload_n E dX0_tally_159 2 rfl ?_
        refine j_getl E 0 2 rfl rfl (by decide) (by decide) (iw iT_0) rfl rfl (tw W_116) kv0 dX0_tally_160 ?_
        refine j_sub [2, 3, 0, 4] rfl ?_
        exact m_X0_tally_b163 E EU K106 hK106 v0 v1 x21 v6 v0 (L16 v0 2) Z I15 L16 hZ hx hc hb kv0 kv1 kv0 h
      · have h := h.2 c22
        refine j_lload E dX0_tally_154 1 rfl ?_
        refine j_goto E 163 dX0_tally_156 (by decide) ?_
        refine j_sub [2, 3, 0, 4] rfl ?_
        exact m_X0_tally_b163 E EU K106 hK106 v0 v1 x21 v6 v0 x20 Z I15 L16 hZ hx hc hb kv0 kv1 kv0 h
set_option maxRecDepth 100000 in
def f_X0_tally_L52 (B : Nat × Nat)  (Q : Int64 → jZ → jI → jL → Prop) : Nat → Nat → Nat → Int32 → Int32 → Int32 → jZ → jI → jL → Prop
  | 0 => fun _ _ _ _ _ _ _ _ => False
  | n + 1 => fun v0 v1 v2 v3 v4 Z I L => (((I v1 15) < v4 → (∃ m106 : Nat, f_X0_tally_L106 B  Q m106 v0 v1 (0 : Int64) (0 : Int32) Z I L)) ∧ (¬ ((I v1 15) < v4) → (∀ b25 : Nat, jr Z v0 0 = some b25 → (f_X6_feed v1 b25 v4 (-536870912 : Int64) v3 Z I L (fun I28 L29 => (∀ b32 : Nat, jr Z v1 7 = some b32 → (vp_in v4 25 ∧ (f_X0_keepOnTheWay B v0 v4 ((I28 v1 1) - (I28 b32 v4.toNatClampNeg)) v2 Z I28 L29 (fun Z35 I36 L37 => (∀ x42 : Int32, x42 = v4 + 1 → (f_X0_tally_L52 B Q n) v0 v1 v2 v3 x42 Z35 I36 L37))))))))))
set_option maxHeartbeats 4000000 in
set_option maxRecDepth 100000 in
theorem m_X0_tally_L52 {G : jG} {Z0 : jZ} {B : Nat × Nat} {Q : Int64 → jZ → jI → jL → Prop} (E : jE G cX0_tally RX0 w_X0_tally 9 (some .long) (jrm B 5 144 Z0) jRF) (EU : jEU G B Z0 (urtL B Z0 Q))  : ∀ (n : Nat) (v0 : Nat) (v1 : Nat) (v2 : Int32) (v3 : Int32) (v4 : Int32) (Z : jZ) (I : jI) (L : jL), SH Z → jext Z0 Z → jle Z0 Z → jin B Z → jk Z v0 0 → jk Z v1 6 → f_X0_tally_L52 B  Q n v0 v1 v2 v3 v4 Z I L → jJ G 9 52 [(0, .ref v0), (1, .ref v1), (2, .int v2), (3, .int v3), (4, .int v4)] [] Z I L (jcz Z - jcz Z0) (jsz Z - jsz Z0) := by
  intro n
  induction n with
  | zero => intro v0 v1 v2 v3 v4 Z I L _ _ _ _ _ _ h; exact h.elim
  | succ n ih =>
    intro v0 v1 v2 v3 v4 Z I L hZ hx hc hb kv0 kv1 h
    have h : (((I v1 15) < v4 → (∃ m106 : Nat, f_X0_tally_L106 B  Q m106 v0 v1 (0 : Int64) (0 : Int32) Z I L)) ∧ (¬ ((I v1 15) < v4) → (∀ b25 : Nat, jr Z v0 0 = some b25 → (f_X6_feed v1 b25 v4 (-536870912 : Int64) v3 Z I L (fun I28 L29 => (∀ b32 : Nat, jr Z v1 7 = some b32 → (vp_in v4 25 ∧ (f_X0_keepOnTheWay B v0 v4 ((I28 v1 1) - (I28 b32 v4.toNatClampNeg)) v2 Z I28 L29 (fun Z35 I36 L37 => (∀ x42 : Int32, x42 = v4 + 1 → (f_X0_tally_L52 B Q n) v0 v1 v2 v3 x42 Z35 I36 L37)))))))))) := h
    obtain ⟨K52, eK52⟩ : ∃ K : Nat → Nat → Int32 → Int32 → Int32 → jZ → jI → jL → Prop, K = f_X0_tally_L52 B  Q n := ⟨_, rfl⟩
    have hK52 := ih
    clear eK52 K52
    generalize f_X0_tally_L52 B  Q n = K52 at hK52 h
    refine j_iload E dX0_tally_52 4 rfl ?_
    refine j_aload_n E dX0_tally_54 1 rfl ?_
    refine j_getiN E 6 15 rfl rfl (by decide) (by decide) (iw iT_6) rfl rfl (nw_6_15_X0_32) kv1 dX0_tally_55 ?_
    refine j_icmp_gt E 100 dX0_tally_58 (by decide) (fun c23 => ?_) (fun c23 => ?_)
    · have h := h.1 c23
      refine j_lconst E (v := 0) dX0_tally_100 (by decide) ?_
      refine j_lstore E 4 [(4, .long (0 : Int64)), (0, .ref v0), (1, .ref v1), (2, .int v2), (3, .int v3)] dX0_tally_101 (by decide) rfl ?_
      refine j_iconst E (v := 0) dX0_tally_103 (by decide) ?_
      refine j_istore E 6 [(6, .int (0 : Int32)), (4, .long (0 : Int64)), (0, .ref v0), (1, .ref v1), (2, .int v2), (3, .int v3)] dX0_tally_104 (by decide) rfl ?_
      obtain ⟨n24, h⟩ := h
      refine j_sub [2, 3, 1, 0] rfl ?_
      exact m_X0_tally_L106 E EU  n24 v0 v1 (0 : Int64) (0 : Int32) Z I L hZ hx hc hb kv0 kv1 h
    · have h := h.2 c23
      refine j_aload_n E dX0_tally_61 1 rfl ?_
      refine j_aload_n E dX0_tally_62 0 rfl ?_
      obtain ⟨b25, eb25, kb25⟩ := sh_o hZ kv0 (j := 0) (k := 7) rfl
      have h := h b25 eb25
      refine j_getr E 0 0 rfl rfl (by decide) (by decide) (iw iT_0) rfl rfl (tw W_70) kv0 eb25 dX0_tally_63 ?_
      refine j_iload E dX0_tally_66 4 rfl ?_
      refine j_ldc2 E (tw W_91) dX0_tally_68 ?_
      refine j_iload_n E dX0_tally_71 3 rfl ?_
      refine j_callV E [.ref b25, .int v4, .long (-536870912 : Int64), .int v3] [] (c_X6_feed (gL G) (gD G) (gY G) v1 b25 v4 (-536870912 : Int64) v3 Z I L _ hZ kv1 kb25 h) (gwV W_78 W_79 W_80 W_33 W_77) rfl ⟨rfl, fy_X6_feed⟩ ⟨Nat.le_of_ble_eq_true rfl, Nat.le_of_ble_eq_true rfl⟩ (c := 6) rfl (by decide) kv1 rfl rfl (Nat.le_of_ble_eq_true rfl) (ju_kn hb) dX0_tally_72 (fun v26 Z27 I28 L29 q30 => ?_)
      obtain ⟨rfl, rfl, h⟩ := q30
      show jJ G 9 75 [(0, .ref v0), (1, .ref v1), (2, .int v2), (3, .int v3), (4, .int v4)] [] Z I28 L29 (jcz Z - jcz Z0) (jsz Z - jsz Z0)
      refine j_aload_n E dX0_tally_75 0 rfl ?_
      refine j_iload E dX0_tally_76 4 rfl ?_
      refine j_aload_n E dX0_tally_78 1 rfl ?_
      refine j_getiN E 6 1 rfl rfl (by decide) (by decide) (iw iT_6) rfl rfl (nw_6_1_X0_65) kv1 dX0_tally_79 ?_
      refine j_aload_n E dX0_tally_82 1 rfl ?_
      obtain ⟨b32, eb32, kb32, lb32⟩ := sh_f hZ kv1 (j := 7) (k := 14) (m := 25) rfl
      have h := h b32 eb32
      refine j_getrN E 6 7 rfl rfl (by decide) (by decide) (iw iT_6) rfl rfl (nw_6_7_X0_44) kv1 eb32 dX0_tally_83 ?_
      refine j_iload E dX0_tally_86 4 rfl ?_
      obtain ⟨o33, h⟩ := h
      refine j_iald E kb32 (by rw [lb32]; exact o33) dX0_tally_88 ?_
      refine j_isub E dX0_tally_89 ?_
      refine j_iload_n E dX0_tally_90 2 rfl ?_
      refine ju_callV E [.int v4, .int ((I28 v1 1) - (I28 b32 v4.toNatClampNeg)), .int v2] [] (c_X0_keepOnTheWay (gL G) (gD G) (gY G) B v0 v4 ((I28 v1 1) - (I28 b32 v4.toNatClampNeg)) v2 Z I28 L29 _ hZ hb kv0 h) (gwV W_119 W_120 W_121 W_98 W_118) rfl ⟨rfl, fy_X0_keepOnTheWay⟩ ⟨Nat.le_of_ble_eq_true rfl, Nat.le_of_ble_eq_true rfl⟩ (c := 0) rfl (by decide) kv0 rfl rfl (Nat.le_of_ble_eq_true rfl) (ju_f hc hb) dX0_tally_91 (fun v34 Z35 I36 L37 q38 j39 => ?_)
      refine ju_next hc j39 ?_
      have hc := jle_trans hc j39
      obtain ⟨yZ35, hZ35, hbZ35, rfl, h⟩ := q38
      have hZ := hZ35
      have hx : jext Z0 Z35 := jext_trans hx yZ35
      have hb := hbZ35
      have k40 := (yZ35 _ _ kv0).1
      have k41 := (yZ35 _ _ kv1).1
      show jJ G 9 94 [(0, .ref v0), (1, .ref v1), (2, .int v2), (3, .int v3), (4, .int v4)] [] Z35 I36 L37 (jcz Z35 - jcz Z0) (jsz Z35 - jsz Z0)
      obtain ⟨x42, ex42⟩ : ∃ y : Int32, y = v4 + 1 := ⟨_, rfl⟩
      have h := h x42 ex42
      refine j_iinc E x42 [(4, .int x42), (0, .ref v0), (1, .ref v1), (2, .int v2), (3, .int v3)] dX0_tally_94 4 rfl (by rw [ex42]; rfl) (by decide) rfl ?_
      refine j_goto E 52 dX0_tally_97 (by decide) ?_
      refine j_sub [1, 2, 3, 4, 0] rfl ?_
      exact hK52 v0 v1 v2 v3 x42 Z35 I36 L37 hZ hx hc hb k40 k41 h
set_option maxRecDepth 100000 in
def f_X0_tally (B : Nat × Nat) (v0 : Nat) (v1 : Nat) (v2 : Int32) (v3 : Int32) (Z : jZ) (I : jI) (L : jL) (Q : Int64 → jZ → jI → jL → Prop) : Prop := (∀ L43 : jL, L43 = jpL L v0 2 (0 : Int64) → (((I v1 15) = 0 → f_X0_tally_b33 B  Q  Z I L43) ∧ (¬ ((I v1 15) = 0) → (((I v1 2) < v2 → f_X0_tally_b33 B  Q  Z I L43) ∧ (¬ ((I v1 2) < v2) → (∀ b46 : Nat, jr Z v1 7 = some b46 → (((I b46 (0 : Int32).toNatClampNeg) ≤ (I v1 1) → (f_X0_findReach v0 v1 Z I L43 (fun I50 L51 => (∀ b54 : Nat, jr Z v0 0 = some b54 → (f_X7_begin B b54 (0 : Int32) (1 : Int64) Z I50 L51 (fun Z56 I57 L58 => (∃ m52 : Nat, f_X0_tally_L52 B  Q m52 v0 v1 v2 v3 (1 : Int32) Z56 I57 L58))))))) ∧ (¬ ((I b46 (0 : Int32).toNatClampNeg) ≤ (I v1 1)) → f_X0_tally_b33 B  Q  Z I L43))))))))
set_option maxHeartbeats 4000000 in
set_option maxRecDepth 100000 in
theorem c_X0_tally (l : Launch) (D : va_G) (cy : jC) (B : Nat × Nat) (v0 : Nat) (v1 : Nat) (v2 : Int32) (v3 : Int32) (Z : jZ) (I : jI) (L : jL) (Q : Int64 → jZ → jI → jL → Prop) (hZ : SH Z) (hb : jin B Z) (kv0 : jk Z v0 0) (kv1 : jk Z v1 6) (h : f_X0_tally B v0 v1 v2 v3 Z I L Q) : jCtU l yX0_tally w_X0_tally B 5 144 D cy [.ref v0, .ref v1, .int v2, .int v3] Z I L (urtL B Z Q) := by
  refine jCtU_of (cc := cX0_tally) (maxL := 9) (ret := (some .long)) (by decide +kernel) rfl (Nat.le_of_ble_eq_true rfl) ?_
  intro G eD eY eL E EU
  subst eD; subst eY; subst eL
  have E : jE G cX0_tally RX0 w_X0_tally 9 (some .long) (jrm B 5 144 Z) jRF := E
  have hx : jext Z Z := jext_rfl
  have hc : jle Z Z := jle_rfl
  show jJ G 9 0 [(0, .ref v0), (1, .ref v1), (2, .int v2), (3, .int v3)] [] Z I L (jcz Z - jcz Z) (jsz Z - jsz Z)
  refine j_aload_n E dX0_tally_0 0 rfl ?_
  refine j_lconst E (v := 0) dX0_tally_1 (by decide) ?_
  refine j_putl E 0 2 rfl rfl (by decide) (by decide) (iw iT_0) tyX0_ok nmX0 rfl rfl (tw W_116) rfl kv0 dX0_tally_2 ?_
  refine j_nmL (fun L43 eL43 => ?_)
  have h := h L43 eL43
  refine j_aload_n E dX0_tally_5 1 rfl ?_
  refine j_getiN E 6 15 rfl rfl (by decide) (by decide) (iw iT_6) rfl rfl (nw_6_15_X0_32) kv1 dX0_tally_6 ?_
  refine j_if_eq E 33 dX0_tally_9 (by decide) (fun c44 => ?_) (fun c44 => ?_)
  · have h := h.1 c44
    refine j_sub [] rfl ?_
    exact m_X0_tally_b33 E EU   Z I L43 hZ hx hc hb  h
  · have h := h.2 c44
    refine j_iload_n E dX0_tally_12 2 rfl ?_
    refine j_aload_n E dX0_tally_13 1 rfl ?_
    refine j_getiN E 6 2 rfl rfl (by decide) (by decide) (iw iT_6) rfl rfl (nw_6_2_X0_48) kv1 dX0_tally_14 ?_
    refine j_icmp_gt E 33 dX0_tally_17 (by decide) (fun c45 => ?_) (fun c45 => ?_)
    · have h := h.1 c45
      refine j_sub [] rfl ?_
      exact m_X0_tally_b33 E EU   Z I L43 hZ hx hc hb  h
    · have h := h.2 c45
      refine j_aload_n E dX0_tally_20 1 rfl ?_
      obtain ⟨b46, eb46, kb46, lb46⟩ := sh_f hZ kv1 (j := 7) (k := 14) (m := 25) rfl
      have h := h b46 eb46
      refine j_getrN E 6 7 rfl rfl (by decide) (by decide) (iw iT_6) rfl rfl (nw_6_7_X0_44) kv1 eb46 dX0_tally_21 ?_
      refine j_iconst E (v := 0) dX0_tally_24 (by decide) ?_
      refine j_iald E kb46 (by rw [lb46]; exact vp_in_lit (by decide)) dX0_tally_25 ?_
      refine j_aload_n E dX0_tally_26 1 rfl ?_
      refine j_getiN E 6 1 rfl rfl (by decide) (by decide) (iw iT_6) rfl rfl (nw_6_1_X0_65) kv1 dX0_tally_27 ?_
      refine j_icmp_le E 35 dX0_tally_30 (by decide) (fun c47 => ?_) (fun c47 => ?_)
      · have h := h.1 c47
        refine j_aload_n E dX0_tally_35 0 rfl ?_
        refine j_aload_n E dX0_tally_36 1 rfl ?_
        refine j_callV E [.ref v1] [] (c_X0_findReach (gL G) (gD G) (gY G) v0 v1 Z I L43 _ hZ kv0 kv1 h) (gwV W_123 W_124 W_125 W_98 W_122) rfl ⟨rfl, fy_X0_findReach⟩ ⟨Nat.le_of_ble_eq_true rfl, Nat.le_of_ble_eq_true rfl⟩ (c := 0) rfl (by decide) kv0 rfl rfl (Nat.le_of_ble_eq_true rfl) (ju_kn hb) dX0_tally_37 (fun v48 Z49 I50 L51 q52 => ?_)
        obtain ⟨rfl, rfl, h⟩ := q52
        show jJ G 9 40 [(0, .ref v0), (1, .ref v1), (2, .int v2), (3, .int v3)] [] Z I50 L51 (jcz Z - jcz Z) (jsz Z - jsz Z)
        refine j_aload_n E dX0_tally_40 0 rfl ?_
        obtain ⟨b54, eb54, kb54⟩ := sh_o hZ kv0 (j := 0) (k := 7) rfl
        have h := h b54 eb54
        refine j_getr E 0 0 rfl rfl (by decide) (by decide) (iw iT_0) rfl rfl (tw W_70) kv0 eb54 dX0_tally_41 ?_
        refine j_iconst E (v := 0) dX0_tally_44 (by decide) ?_
        refine j_lconst E (v := 1) dX0_tally_45 (by decide) ?_
        refine ju_callV E [.int (0 : Int32), .long (1 : Int64)] [] (c_X7_begin (gL G) (gD G) (gY G) B b54 (0 : Int32) (1 : Int64) Z I50 L51 _ hZ hb kb54 h) (gwV W_87 W_88 W_89 W_24 W_86) rfl ⟨rfl, fy_X7_begin⟩ ⟨Nat.le_of_ble_eq_true rfl, Nat.le_of_ble_eq_true rfl⟩ (c := 7) rfl (by decide) kb54 rfl rfl (Nat.le_of_ble_eq_true rfl) (ju_f hc hb) dX0_tally_46 (fun v55 Z56 I57 L58 q59 j60 => ?_)
        refine ju_next hc j60 ?_
        have hc := jle_trans hc j60
        obtain ⟨yZ56, hZ56, hbZ56, rfl, h⟩ := q59
        have hZ := hZ56
        have hx : jext Z Z56 := jext_trans hx yZ56
        have hb := hbZ56
        have k61 := (yZ56 _ _ kv0).1
        have k62 := (yZ56 _ _ kv1).1
        show jJ G 9 49 [(0, .ref v0), (1, .ref v1), (2, .int v2), (3, .int v3)] [] Z56 I57 L58 (jcz Z56 - jcz Z) (jsz Z56 - jsz Z)
        refine j_iconst E (v := 1) dX0_tally_49 (by decide) ?_
        refine j_istore E 4 [(4, .int (1 : Int32)), (0, .ref v0), (1, .ref v1), (2, .int v2), (3, .int v3)] dX0_tally_50 (by decide) rfl ?_
        obtain ⟨n63, h⟩ := h
        refine j_sub [1, 2, 3, 4, 0] rfl ?_
        exact m_X0_tally_L52 E EU  n63 v0 v1 v2 v3 (1 : Int32) Z56 I57 L58 hZ hx hc hb k61 k62 h
      · have h := h.2 c47
        refine j_sub [] rfl ?_
        exact m_X0_tally_b33 E EU   Z I L43 hZ hx hc hb  h
set_option maxRecDepth 100000 in
def f_X1_prepare_L43  (Z : jZ) (Q : jI → jL → Prop) : Nat → Nat → Int32 → jI → jL → Prop
  | 0 => fun _ _ _ _ => False
  | n + 1 => fun v0 v2 I L => (((6 : Int32) ≤ v2 → Q I L) ∧ (¬ ((6 : Int32) ≤ v2) → (∀ b2 : Nat, jr Z v0 0 = some b2 → (vp_in v2 6 ∧ (∀ I4 : jI, I4 = jpI I b2 v2.toNatClampNeg (vp_nar .boolean (0 : Int32)) → (∀ b5 : Nat, jr Z v0 2 = some b5 → (vp_in v2 6 ∧ (∀ I7 : jI, I7 = jpI I4 b5 v2.toNatClampNeg (-1 : Int32) → (∀ b8 : Nat, jr Z v0 3 = some b8 → (vp_in v2 6 ∧ (∀ I10 : jI, I10 = jpI I7 b8 v2.toNatClampNeg (0 : Int32) → (∀ x11 : Int32, x11 = v2 + 1 → (f_X1_prepare_L43 Z Q n) v0 x11 I10 L))))))))))))
set_option maxHeartbeats 4000000 in
set_option maxRecDepth 100000 in
theorem m_X1_prepare_L43 {G : jG} {Z : jZ} {Q : jI → jL → Prop} (E : jE G cX1_prepare RX1 w_X1_prepare 3 none { frames := 1, cells := 0, slots := 0, locals := 23 } (rtV Z Q)) (hZ : SH Z)  : ∀ (n : Nat) (v0 : Nat) (v2 : Int32) (I : jI) (L : jL), jk Z v0 1 → f_X1_prepare_L43  Z Q n v0 v2 I L → jJ G 3 43 [(0, .ref v0), (2, .int v2)] [] Z I L 0 0 := by
  intro n
  induction n with
  | zero => intro v0 v2 I L _ h; exact h.elim
  | succ n ih =>
    intro v0 v2 I L kv0 h
    have h : (((6 : Int32) ≤ v2 → Q I L) ∧ (¬ ((6 : Int32) ≤ v2) → (∀ b2 : Nat, jr Z v0 0 = some b2 → (vp_in v2 6 ∧ (∀ I4 : jI, I4 = jpI I b2 v2.toNatClampNeg (vp_nar .boolean (0 : Int32)) → (∀ b5 : Nat, jr Z v0 2 = some b5 → (vp_in v2 6 ∧ (∀ I7 : jI, I7 = jpI I4 b5 v2.toNatClampNeg (-1 : Int32) → (∀ b8 : Nat, jr Z v0 3 = some b8 → (vp_in v2 6 ∧ (∀ I10 : jI, I10 = jpI I7 b8 v2.toNatClampNeg (0 : Int32) → (∀ x11 : Int32, x11 = v2 + 1 → (f_X1_prepare_L43 Z Q n) v0 x11 I10 L)))))))))))) := h
    obtain ⟨K43, eK43⟩ : ∃ K : Nat → Int32 → jI → jL → Prop, K = f_X1_prepare_L43  Z Q n := ⟨_, rfl⟩
    have hK43 := ih
    clear eK43 K43
    generalize f_X1_prepare_L43  Z Q n = K43 at hK43 h
    refine j_iload_n E dX1_prepare_43 1 rfl ?_
    refine j_bipush E (v := 6) dX1_prepare_44 (by decide) ?_
    refine j_icmp_ge E 76 dX1_prepare_46 (by decide) (fun c1 => ?_) (fun c1 => ?_)
    · have h := h.1 c1
      exact j_return E ⟨rfl, rfl, h⟩ (Nat.zero_le _) (Nat.zero_le _) dX1_prepare_76
    · have h := h.2 c1
      refine j_aload_n E dX1_prepare_49 0 rfl ?_
      obtain ⟨b2, eb2, kb2, lb2⟩ := sh_f hZ kv0 (j := 0) (k := 16) (m := 6) rfl
      have h := h b2 eb2
      refine j_getr E 1 0 rfl rfl (by decide) (by decide) (iw iT_1) rfl rfl (tw W_126) kv0 eb2 dX1_prepare_50 ?_
      refine j_iload_n E dX1_prepare_53 1 rfl ?_
      refine j_iconst E (v := 0) dX1_prepare_54 (by decide) ?_
      obtain ⟨o3, h⟩ := h
      refine j_zast E kb2 (by rw [lb2]; exact o3) dX1_prepare_55 ?_
      refine j_nmI (fun I4 eI4 => ?_)
      have h := h I4 eI4
      refine j_aload_n E dX1_prepare_56 0 rfl ?_
      obtain ⟨b5, eb5, kb5, lb5⟩ := sh_f hZ kv0 (j := 2) (k := 14) (m := 6) rfl
      have h := h b5 eb5
      refine j_getr E 1 2 rfl rfl (by decide) (by decide) (iw iT_1) rfl rfl (tw W_127) kv0 eb5 dX1_prepare_57 ?_
      refine j_iload_n E dX1_prepare_60 1 rfl ?_
      refine j_iconst E (v := -1) dX1_prepare_61 (by decide) ?_
      obtain ⟨o6, h⟩ := h
      refine j_iast E kb5 (by rw [lb5]; exact o6) dX1_prepare_62 ?_
      refine j_nmI (fun I7 eI7 => ?_)
      have h := h I7 eI7
      refine j_aload_n E dX1_prepare_63 0 rfl ?_
      obtain ⟨b8, eb8, kb8, lb8⟩ := sh_f hZ kv0 (j := 3) (k := 14) (m := 6) rfl
      have h := h b8 eb8
      refine j_getr E 1 3 rfl rfl (by decide) (by decide) (iw iT_1) rfl rfl (tw W_128) kv0 eb8 dX1_prepare_64 ?_
      refine j_iload_n E dX1_prepare_67 1 rfl ?_
      refine j_iconst E (v := 0) dX1_prepare_68 (by decide) ?_
      obtain ⟨o9, h⟩ := h
      refine j_iast E kb8 (by rw [lb8]; exact o9) dX1_prepare_69 ?_
      refine j_nmI (fun I10 eI10 => ?_)
      have h := h I10 eI10
      obtain ⟨x11, ex11⟩ : ∃ y : Int32, y = v2 + 1 := ⟨_, rfl⟩
      have h := h x11 ex11
      refine j_iinc E x11 [(2, .int x11), (0, .ref v0)] dX1_prepare_70 1 rfl (by rw [ex11]; rfl) (by decide) rfl ?_
      refine j_goto E 43 dX1_prepare_73 (by decide) ?_
      refine j_sub [1, 0] rfl ?_
      exact hK43 v0 x11 I10 L kv0 h
set_option maxRecDepth 100000 in
def f_X1_prepare (v0 : Nat) (v1 : Int32) (Z : jZ) (I : jI) (L : jL) (Q : jI → jL → Prop) : Prop := (∀ I12 : jI, I12 = jpI I v0 6 (if (24 : Int32) < v1 then (24 : Int32) else v1) → (∀ I13 : jI, I13 = jpI I12 v0 7 (0 : Int32) → (∀ I14 : jI, I14 = jpI I13 v0 8 (0 : Int32) → (∀ I15 : jI, I15 = jpI I14 v0 9 (0 : Int32) → (∀ b16 : Nat, jr Z v0 4 = some b16 → (f_J7_fill_53178 b16 (0 : Int32) Z I15 L (fun I19 L20 => (∀ b23 : Nat, jr Z v0 5 = some b23 → (f_J7_fill_53178 b23 (0 : Int32) Z I19 L20 (fun I26 L27 => (∃ m43 : Nat, f_X1_prepare_L43  Z Q m43 v0 (0 : Int32) I26 L27)))))))))))
set_option maxHeartbeats 4000000 in
set_option maxRecDepth 100000 in
theorem c_X1_prepare (l : Launch) (D : va_G) (cy : jC) (v0 : Nat) (v1 : Int32) (Z : jZ) (I : jI) (L : jL) (Q : jI → jL → Prop) (hZ : SH Z) (kv0 : jk Z v0 1) (h : f_X1_prepare v0 v1 Z I L Q) : jCt l yX1_prepare w_X1_prepare { frames := 1, cells := 0, slots := 0, locals := 23 } D cy [.ref v0, .int v1] Z I L (rtV Z Q) := by
  refine jCt_of (cc := cX1_prepare) (maxL := 3) (ret := none) (by decide +kernel) rfl (Nat.le_of_ble_eq_true rfl) ?_
  intro G eD eY eL E
  subst eD; subst eY; subst eL
  have E : jE G cX1_prepare RX1 w_X1_prepare 3 none { frames := 1, cells := 0, slots := 0, locals := 23 } (rtV Z Q) := E
  show jJ G 3 0 [(0, .ref v0), (1, .int v1)] [] Z I L 0 0
  refine j_aload_n E dX1_prepare_0 0 rfl ?_
  refine j_iload_n E dX1_prepare_1 1 rfl ?_
  refine j_bipush E (v := 24) dX1_prepare_2 (by decide) ?_
  refine j_min E (tw W_129) (tw W_7) (tw W_8) (tw W_9) (Nat.le_of_ble_eq_true rfl) (Nat.le_of_ble_eq_true rfl) (Nat.zero_le _) (Nat.zero_le _) dX1_prepare_4 ?_
  refine j_puti E 1 6 rfl rfl (by decide) (by decide) (iw iT_1) tyX1_ok nmX1 rfl rfl (tw W_130) rfl rfl rfl kv0 dX1_prepare_7 ?_
  refine j_nmI (fun I12 eI12 => ?_)
  have h := h I12 eI12
  refine j_aload_n E dX1_prepare_10 0 rfl ?_
  refine j_iconst E (v := 0) dX1_prepare_11 (by decide) ?_
  refine j_puti E 1 7 rfl rfl (by decide) (by decide) (iw iT_1) tyX1_ok nmX1 rfl rfl (tw W_131) rfl rfl rfl kv0 dX1_prepare_12 ?_
  refine j_nmI (fun I13 eI13 => ?_)
  have h := h I13 eI13
  refine j_aload_n E dX1_prepare_15 0 rfl ?_
  refine j_iconst E (v := 0) dX1_prepare_16 (by decide) ?_
  refine j_puti E 1 8 rfl rfl (by decide) (by decide) (iw iT_1) tyX1_ok nmX1 rfl rfl (tw W_132) rfl rfl rfl kv0 dX1_prepare_17 ?_
  refine j_nmI (fun I14 eI14 => ?_)
  have h := h I14 eI14
  refine j_aload_n E dX1_prepare_20 0 rfl ?_
  refine j_iconst E (v := 0) dX1_prepare_21 (by decide) ?_
  refine j_puti E 1 9 rfl rfl (by decide) (by decide) (iw iT_1) tyX1_ok nmX1 rfl rfl (tw W_133) rfl rfl rfl kv0 dX1_prepare_22 ?_
  refine j_nmI (fun I15 eI15 => ?_)
  have h := h I15 eI15
  refine j_aload_n E dX1_prepare_25 0 rfl ?_
  obtain ⟨b16, eb16, kb16, lb16⟩ := sh_f hZ kv0 (j := 4) (k := 14) (m := 24) rfl
  have h := h b16 eb16
  refine j_getr E 1 4 rfl rfl (by decide) (by decide) (iw iT_1) rfl rfl (tw W_134) kv0 eb16 dX1_prepare_26 ?_
  refine j_iconst E (v := 0) dX1_prepare_29 (by decide) ?_
  refine j_callS E [.ref b16, .int (0 : Int32)] [] (c_J7_fill_53178 (gL G) (gD G) (gY G) b16 (0 : Int32) Z I15 L _ hZ kb16 h) (gwS W_135 W_22 W_17 W_20) rfl fy_J7_fill_53178 ⟨by decide, by decide⟩ rfl rfl (Nat.le_of_ble_eq_true rfl) ⟨Nat.zero_le _, Nat.zero_le _⟩ dX1_prepare_30 (fun v17 Z18 I19 L20 q21 => ?_)
  obtain ⟨rfl, rfl, h⟩ := q21
  show jJ G 3 33 [(0, .ref v0), (1, .int v1)] [] Z I19 L20 0 0
  refine j_aload_n E dX1_prepare_33 0 rfl ?_
  obtain ⟨b23, eb23, kb23, lb23⟩ := sh_f hZ kv0 (j := 5) (k := 14) (m := 24) rfl
  have h := h b23 eb23
  refine j_getr E 1 5 rfl rfl (by decide) (by decide) (iw iT_1) rfl rfl (tw W_136) kv0 eb23 dX1_prepare_34 ?_
  refine j_iconst E (v := 0) dX1_prepare_37 (by decide) ?_
  refine j_callS E [.ref b23, .int (0 : Int32)] [] (c_J7_fill_53178 (gL G) (gD G) (gY G) b23 (0 : Int32) Z I19 L20 _ hZ kb23 h) (gwS W_135 W_22 W_17 W_20) rfl fy_J7_fill_53178 ⟨by decide, by decide⟩ rfl rfl (Nat.le_of_ble_eq_true rfl) ⟨Nat.zero_le _, Nat.zero_le _⟩ dX1_prepare_38 (fun v24 Z25 I26 L27 q28 => ?_)
  obtain ⟨rfl, rfl, h⟩ := q28
  show jJ G 3 41 [(0, .ref v0), (1, .int v1)] [] Z I26 L27 0 0
  refine j_iconst E (v := 0) dX1_prepare_41 (by decide) ?_
  refine j_istore_n E 2 [(2, .int (0 : Int32)), (0, .ref v0), (1, .int v1)] dX1_prepare_42 rfl (by decide) rfl ?_
  obtain ⟨n30, h⟩ := h
  refine j_sub [1, 0] rfl ?_
  exact m_X1_prepare_L43 E hZ  n30 v0 (0 : Int32) I26 L27 kv0 h
set_option maxRecDepth 100000 in
def f_X1_invite (v0 : Nat) (v1 : Int32) (v2 : Int64) (Z : jZ) (I : jI) (L : jL) (Q : jI → jL → Prop) : Prop := ((v1 < 0 → Q I L) ∧ (¬ (v1 < 0) → (((6 : Int32) ≤ v1 → Q I L) ∧ (¬ ((6 : Int32) ≤ v1) → (∀ b3 : Nat, jr Z v0 0 = some b3 → (vp_in v1 6 ∧ ((¬ (I b3 v1.toNatClampNeg) = 0 → Q I L) ∧ ((I b3 v1.toNatClampNeg) = 0 → (∀ b6 : Nat, jr Z v0 0 = some b6 → (vp_in v1 6 ∧ (∀ I8 : jI, I8 = jpI I b6 v1.toNatClampNeg (vp_nar .boolean (1 : Int32)) → (∀ b9 : Nat, jr Z v0 1 = some b9 → (vp_in v1 6 ∧ (∀ L11 : jL, L11 = jpL L b9 v1.toNatClampNeg v2 → (∀ I12 : jI, I12 = jpI I8 v0 7 ((I8 v0 7) + (1 : Int32)) → Q I12 L11)))))))))))))))
set_option maxHeartbeats 4000000 in
set_option maxRecDepth 100000 in
theorem c_X1_invite (l : Launch) (D : va_G) (cy : jC) (v0 : Nat) (v1 : Int32) (v2 : Int64) (Z : jZ) (I : jI) (L : jL) (Q : jI → jL → Prop) (hZ : SH Z) (kv0 : jk Z v0 1) (h : f_X1_invite v0 v1 v2 Z I L Q) : jCt l yX1_invite w_X1_invite { frames := 0, cells := 0, slots := 0, locals := 0 } D cy [.ref v0, .int v1, .long v2] Z I L (rtV Z Q) := by
  refine jCt_of (cc := cX1_invite) (maxL := 4) (ret := none) (by decide +kernel) rfl (Nat.le_of_ble_eq_true rfl) ?_
  intro G eD eY eL E
  subst eD; subst eY; subst eL
  have E : jE G cX1_invite RX1 w_X1_invite 4 none { frames := 0, cells := 0, slots := 0, locals := 0 } (rtV Z Q) := E
  show jJ G 4 0 [(0, .ref v0), (1, .int v1), (2, .long v2)] [] Z I L 0 0
  refine j_iload_n E dX1_invite_0 1 rfl ?_
  refine j_if_lt E 43 dX1_invite_1 (by decide) (fun c1 => ?_) (fun c1 => ?_)
  · have h := h.1 c1
    exact j_return E ⟨rfl, rfl, h⟩ (Nat.zero_le _) (Nat.zero_le _) dX1_invite_43
  · have h := h.2 c1
    refine j_iload_n E dX1_invite_4 1 rfl ?_
    refine j_bipush E (v := 6) dX1_invite_5 (by decide) ?_
    refine j_icmp_ge E 43 dX1_invite_7 (by decide) (fun c2 => ?_) (fun c2 => ?_)
    · have h := h.1 c2
      exact j_return E ⟨rfl, rfl, h⟩ (Nat.zero_le _) (Nat.zero_le _) dX1_invite_43
    · have h := h.2 c2
      refine j_aload_n E dX1_invite_10 0 rfl ?_
      obtain ⟨b3, eb3, kb3, lb3⟩ := sh_f hZ kv0 (j := 0) (k := 16) (m := 6) rfl
      have h := h b3 eb3
      refine j_getr E 1 0 rfl rfl (by decide) (by decide) (iw iT_1) rfl rfl (tw W_126) kv0 eb3 dX1_invite_11 ?_
      refine j_iload_n E dX1_invite_14 1 rfl ?_
      obtain ⟨o4, h⟩ := h
      refine j_zald E kb3 (by rw [lb3]; exact o4) dX1_invite_15 ?_
      refine j_if_ne E 43 dX1_invite_16 (by decide) (fun c5 => ?_) (fun c5 => ?_)
      · have h := h.1 c5
        exact j_return E ⟨rfl, rfl, h⟩ (Nat.zero_le _) (Nat.zero_le _) dX1_invite_43
      · have h := h.2 c5
        refine j_aload_n E dX1_invite_19 0 rfl ?_
        obtain ⟨b6, eb6, kb6, lb6⟩ := sh_f hZ kv0 (j := 0) (k := 16) (m := 6) rfl
        have h := h b6 eb6
        refine j_getr E 1 0 rfl rfl (by decide) (by decide) (iw iT_1) rfl rfl (tw W_126) kv0 eb6 dX1_invite_20 ?_
        refine j_iload_n E dX1_invite_23 1 rfl ?_
        refine j_iconst E (v := 1) dX1_invite_24 (by decide) ?_
        obtain ⟨o7, h⟩ := h
        refine j_zast E kb6 (by rw [lb6]; exact o7) dX1_invite_25 ?_
        refine j_nmI (fun I8 eI8 => ?_)
        have h := h I8 eI8
        refine j_aload_n E dX1_invite_26 0 rfl ?_
        obtain ⟨b9, eb9, kb9, lb9⟩ := sh_f hZ kv0 (j := 1) (k := 15) (m := 6) rfl
        have h := h b9 eb9
        refine j_getr E 1 1 rfl rfl (by decide) (by decide) (iw iT_1) rfl rfl (tw W_137) kv0 eb9 dX1_invite_27 ?_
        refine j_iload_n E dX1_invite_30 1 rfl ?_
        refine j_lload_n E dX1_invite_31 2 rfl ?_
        obtain ⟨o10, h⟩ := h
        refine j_last E kb9 (by rw [lb9]; exact o10) dX1_invite_32 ?_
        refine j_nmL (fun L11 eL11 => ?_)
        have h := h L11 eL11
        refine j_aload_n E dX1_invite_33 0 rfl ?_
        refine j_dup E dX1_invite_34 rfl ?_
        refine j_geti E 1 7 rfl rfl (by decide) (by decide) (iw iT_1) rfl rfl (tw W_131) kv0 dX1_invite_35 ?_
        refine j_iconst E (v := 1) dX1_invite_38 (by decide) ?_
        refine j_iadd E dX1_invite_39 ?_
        refine j_puti E 1 7 rfl rfl (by decide) (by decide) (iw iT_1) tyX1_ok nmX1 rfl rfl (tw W_131) rfl rfl rfl kv0 dX1_invite_40 ?_
        refine j_nmI (fun I12 eI12 => ?_)
        have h := h I12 eI12
        exact j_return E ⟨rfl, rfl, h⟩ (Nat.zero_le _) (Nat.zero_le _) dX1_invite_43
set_option maxRecDepth 100000 in
def f_X11_treads (v0 : Int64) (v2 : Int32) (Z : jZ) (I : jI) (L : jL) (Q : Int32 → jI → jL → Prop) : Prop := (f_X11_bitOf v2 Z I L (fun r7 I3 L4 => ((¬ (lg_cmp (v0 &&& r7) (0 : Int64)) = 0 → Q (0 : Int32) I3 L4) ∧ ((lg_cmp (v0 &&& r7) (0 : Int64)) = 0 → Q (1 : Int32) I3 L4))))
set_option maxHeartbeats 4000000 in
set_option maxRecDepth 100000 in
theorem c_X11_treads (l : Launch) (D : va_G) (cy : jC) (v0 : Int64) (v2 : Int32) (Z : jZ) (I : jI) (L : jL) (Q : Int32 → jI → jL → Prop) (hZ : SH Z)  (h : f_X11_treads v0 v2 Z I L Q) : jCt l yX11_treads w_X11_treads { frames := 1, cells := 0, slots := 0, locals := 20 } D cy [.long v0, .int v2] Z I L (rtZ Z Q) := by
  refine jCt_of (cc := cX11_treads) (maxL := 3) (ret := (some .boolean)) (by decide +kernel) rfl (Nat.le_of_ble_eq_true rfl) ?_
  intro G eD eY eL E
  subst eD; subst eY; subst eL
  have E : jE G cX11_treads RX11 w_X11_treads 3 (some .boolean) { frames := 1, cells := 0, slots := 0, locals := 20 } (rtZ Z Q) := E
  show jJ G 3 0 [(0, .long v0), (2, .int v2)] [] Z I L 0 0
  refine j_lload_n E dX11_treads_0 0 rfl ?_
  refine j_iload_n E dX11_treads_1 1 rfl ?_
  refine j_callS E [.int v2] [.long v0] (c_X11_bitOf (gL G) (gD G) (gY G) v2 Z I L _ hZ  h) (gwS W_138 W_41 W_40 W_39) rfl fy_X11_bitOf ⟨by decide, by decide⟩ rfl rfl (Nat.le_of_ble_eq_true rfl) ⟨Nat.zero_le _, Nat.zero_le _⟩ dX11_treads_2 (fun v1 Z2 I3 L4 q5 => ?_)
  obtain ⟨rfl, r7, rfl, h⟩ := q5
  show jJ G 3 5 [(0, .long v0), (2, .int v2)] [.long r7, .long v0] Z I3 L4 0 0
  refine j_land E dX11_treads_5 ?_
  refine j_lconst E (v := 0) dX11_treads_6 (by decide) ?_
  refine j_lcmp E dX11_treads_7 ?_
  refine j_if_ne E 15 dX11_treads_8 (by decide) (fun c8 => ?_) (fun c8 => ?_)
  · have h := h.1 c8
    refine j_iconst E (v := 0) dX11_treads_15 (by decide) ?_
    exact j_zreturn E (Or.inl rfl) ⟨rfl, _, rfl, (Or.inl rfl), h⟩ (Nat.zero_le _) (Nat.zero_le _) dX11_treads_16
  · have h := h.2 c8
    refine j_iconst E (v := 1) dX11_treads_11 (by decide) ?_
    refine j_goto E 16 dX11_treads_12 (by decide) ?_
    exact j_zreturn E (Or.inr rfl) ⟨rfl, _, rfl, (Or.inr rfl), h⟩ (Nat.zero_le _) (Nat.zero_le _) dX11_treads_16
