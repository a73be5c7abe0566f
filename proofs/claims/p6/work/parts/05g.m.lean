set_option maxRecDepth 100000 in
def f_X11_market_b80 (B : Nat × Nat)  (Q : Int32 → jZ → jI → jL → Prop) (v0 : Nat) (v2 : Int32) (s0 : Nat) (s1 : Int64) (Z : jZ) (I : jI) (L : jL) : Prop := (∀ b1 : Nat, jr Z v0 2 = some b1 → (f_X8_sumOfAsks b1 Z I L (fun r8 I4 L5 => (f_X11_tellTwo s0 s1 (r8.toInt64) Z I4 L5 (fun I11 L12 => Q v2 Z I11 L12)))))
set_option maxHeartbeats 4000000 in
set_option maxRecDepth 100000 in
theorem m_X11_market_b80 {G : jG} {B : Nat × Nat} {Z0 : jZ} {Q : Int32 → jZ → jI → jL → Prop} (E : jE G cX11_market RX11 w_X11_market 5 (some .int) (jrm B 7 188 Z0) jRF) (EU : jEU G B Z0 (urtI B Z0 Q))  (v0 : Nat) (v2 : Int32) (s0 : Nat) (s1 : Int64) (Z : jZ) (I : jI) (L : jL) (hZ : SH Z) (hx : jext Z0 Z) (hc : jle Z0 Z) (hb : jin B Z) (kv0 : jk Z v0 11) (ks0 : jk Z s0 11) (h : f_X11_market_b80 B  Q v0 v2 s0 s1 Z I L) : jJ G 5 80 [(0, .ref v0), (2, .int v2)] [.long s1, .ref s0] Z I L (jcz Z - jcz Z0) (jsz Z - jsz Z0) := by
  refine j_aload_n E dX11_market_80 0 rfl ?_
  obtain ⟨b1, eb1, kb1⟩ := sh_o hZ kv0 (j := 2) (k := 8) rfl
  have h := h b1 eb1
  refine j_getr E 11 2 rfl rfl (by decide) (by decide) (iw iT_11) rfl rfl (tw W_454) kv0 eb1 dX11_market_81 ?_
  refine j_callV E [] [.long s1, .ref s0] (c_X8_sumOfAsks (gL G) (gD G) (gY G) b1 Z I L _ hZ kb1 h) (gwV W_470 W_471 W_472 W_254 W_469) rfl ⟨rfl, fy_X8_sumOfAsks⟩ ⟨Nat.le_of_ble_eq_true rfl, Nat.le_of_ble_eq_true rfl⟩ (c := 8) rfl (by decide) kb1 rfl rfl (Nat.le_of_ble_eq_true rfl) (ju_kn hb) dX11_market_84 (fun v2 Z3 I4 L5 q6 => ?_)
  obtain ⟨rfl, r8, rfl, h⟩ := q6
  show jJ G 5 87 [(0, .ref v0), (2, .int v2)] [.int r8, .long s1, .ref s0] Z I4 L5 (jcz Z - jcz Z0) (jsz Z - jsz Z0)
  refine j_i2l E dX11_market_87 ?_
  refine j_callV E [.long s1, .long (r8.toInt64)] [] (c_X11_tellTwo (gL G) (gD G) (gY G) s0 s1 (r8.toInt64) Z I4 L5 _ hZ ks0 h) (gwV W_501 W_502 W_503 W_40 W_500) rfl ⟨rfl, fy_X11_tellTwo⟩ ⟨Nat.le_of_ble_eq_true rfl, Nat.le_of_ble_eq_true rfl⟩ (c := 11) rfl (by decide) ks0 rfl rfl (Nat.le_of_ble_eq_true rfl) (ju_kn hb) dX11_market_88 (fun v9 Z10 I11 L12 q13 => ?_)
  obtain ⟨rfl, rfl, h⟩ := q13
  show jJ G 5 91 [(0, .ref v0), (2, .int v2)] [] Z I11 L12 (jcz Z - jcz Z0) (jsz Z - jsz Z0)
  refine j_iload_n E dX11_market_91 1 rfl ?_
  exact ju_ireturn E EU hc hb ⟨hx, hZ, hb, _, rfl, h⟩ dX11_market_92
set_option maxRecDepth 100000 in
def f_X11_market_b70 (B : Nat × Nat)  (Q : Int32 → jZ → jI → jL → Prop) (v0 : Nat) (v2 : Int32) (v3 : Int32) (Z : jZ) (I : jI) (L : jL) : Prop := ((v3 = 0 → f_X11_market_b80 B  Q v0 v2 v0 (0 : Int64) Z I L) ∧ (¬ (v3 = 0) → f_X11_market_b80 B  Q v0 v2 v0 (1 : Int64) Z I L))
set_option maxHeartbeats 4000000 in
set_option maxRecDepth 100000 in
theorem m_X11_market_b70 {G : jG} {B : Nat × Nat} {Z0 : jZ} {Q : Int32 → jZ → jI → jL → Prop} (E : jE G cX11_market RX11 w_X11_market 5 (some .int) (jrm B 7 188 Z0) jRF) (EU : jEU G B Z0 (urtI B Z0 Q))  (v0 : Nat) (v2 : Int32) (v3 : Int32) (Z : jZ) (I : jI) (L : jL) (hZ : SH Z) (hx : jext Z0 Z) (hc : jle Z0 Z) (hb : jin B Z) (kv0 : jk Z v0 11) (h : f_X11_market_b70 B  Q v0 v2 v3 Z I L) : jJ G 5 70 [(0, .ref v0), (2, .int v2), (3, .int v3)] [] Z I L (jcz Z - jcz Z0) (jsz Z - jsz Z0) := by
  refine j_aload_n E dX11_market_70 0 rfl ?_
  refine j_iload_n E dX11_market_71 2 rfl ?_
  refine j_if_eq E 79 dX11_market_72 (by decide) (fun c15 => ?_) (fun c15 => ?_)
  · have h := h.1 c15
    refine j_lconst E (v := 0) dX11_market_79 (by decide) ?_
    refine j_sub [0, 1] rfl ?_
    exact m_X11_market_b80 E EU  v0 v2 v0 (0 : Int64) Z I L hZ hx hc hb kv0 kv0 h
  · have h := h.2 c15
    refine j_lconst E (v := 1) dX11_market_75 (by decide) ?_
    refine j_goto E 80 dX11_market_76 (by decide) ?_
    refine j_sub [0, 1] rfl ?_
    exact m_X11_market_b80 E EU  v0 v2 v0 (1 : Int64) Z I L hZ hx hc hb kv0 kv0 h
set_option maxRecDepth 100000 in
def f_X11_market_b62 (B : Nat × Nat) (K29 : Nat → Int32 → Int32 → Int32 → Int32 → jZ → jI → jL → Prop) (Q : Int32 → jZ → jI → jL → Prop) (v0 : Nat) (v1 : Int32) (v3 : Int32) (v4 : Int32) (s0 : Int32) (s1 : Int32) (Z : jZ) (I : jI) (L : jL) : Prop := (∀ x16 : Int32, x16 = (s0 + s1) → (∀ x17 : Int32, x17 = v4 + 1 → K29 v0 v1 x16 v3 x17 Z I L))
set_option maxHeartbeats 4000000 in
set_option maxRecDepth 100000 in
theorem m_X11_market_b62 {G : jG} {B : Nat × Nat} {Z0 : jZ} {Q : Int32 → jZ → jI → jL → Prop} (E : jE G cX11_market RX11 w_X11_market 5 (some .int) (jrm B 7 188 Z0) jRF) (EU : jEU G B Z0 (urtI B Z0 Q)) (K29 : Nat → Int32 → Int32 → Int32 → Int32 → jZ → jI → jL → Prop) (hK29 : ∀ (v0 : Nat) (v1 : Int32) (v2 : Int32) (v3 : Int32) (v4 : Int32) (Z : jZ) (I : jI) (L : jL), SH Z → jext Z0 Z → jle Z0 Z → jin B Z → jk Z v0 11 → K29 v0 v1 v2 v3 v4 Z I L → jJ G 5 29 [(0, .ref v0), (1, .int v1), (2, .int v2), (3, .int v3), (4, .int v4)] [] Z I L (jcz Z - jcz Z0) (jsz Z - jsz Z0)) (v0 : Nat) (v1 : Int32) (v3 : Int32) (v4 : Int32) (s0 : Int32) (s1 : Int32) (Z : jZ) (I : jI) (L : jL) (hZ : SH Z) (hx : jext Z0 Z) (hc : jle Z0 Z) (hb : jin B Z) (kv0 : jk Z v0 11) (h : f_X11_market_b62 B K29 Q v0 v1 v3 v4 s0 s1 Z I L) : jJ G 5 62 [(0, .ref v0), (1, .int v1), (3, .int v3), (4, .int v4)] [.int s1, .int s0] Z I L (jcz Z - jcz Z0) (jsz Z - jsz Z0) := by
  refine j_iadd E dX11_market_62 ?_
  refine j_topi (fun x16 ex16 => ?_)
  have h := h x16 ex16
  refine j_istore_n E 2 [(2, .int x16), (0, .ref v0), (1, .int v1), (3, .int v3), (4, .int v4)] dX11_market_63 rfl (by decide) rfl ?_
  obtain ⟨x17, ex17⟩ : ∃ y : Int32, y = v4 + 1 := ⟨_, rfl⟩
  have h := h x17 ex17
  refine j_iinc E x17 [(4, .int x17), (2, .int x16), (0, .ref v0), (1, .int v1), (3, .int v3)] dX11_market_64 4 rfl (by rw [ex17]; rfl) (by decide) rfl ?_
  refine j_goto E 29 dX11_market_67 (by decide) ?_
  refine j_sub [2, 3, 1, 4, 0] rfl ?_
  exact hK29 v0 v1 x16 v3 x17 Z I L hZ hx hc hb kv0 h
set_option maxRecDepth 100000 in
def f_X11_market_b51 (B : Nat × Nat) (K29 : Nat → Int32 → Int32 → Int32 → Int32 → jZ → jI → jL → Prop) (Q : Int32 → jZ → jI → jL → Prop) (v0 : Nat) (v1 : Int32) (v2 : Int32) (v4 : Int32) (s0 : Int32) (Z : jZ) (I : jI) (L : jL) : Prop := ((s0 = 0 → f_X11_market_b62 B K29 Q v0 v1 s0 v4 v2 (1 : Int32) Z I L) ∧ (¬ (s0 = 0) → f_X11_market_b62 B K29 Q v0 v1 s0 v4 v2 (0 : Int32) Z I L))
set_option maxHeartbeats 4000000 in
set_option maxRecDepth 100000 in
theorem m_X11_market_b51 {G : jG} {B : Nat × Nat} {Z0 : jZ} {Q : Int32 → jZ → jI → jL → Prop} (E : jE G cX11_market RX11 w_X11_market 5 (some .int) (jrm B 7 188 Z0) jRF) (EU : jEU G B Z0 (urtI B Z0 Q)) (K29 : Nat → Int32 → Int32 → Int32 → Int32 → jZ → jI → jL → Prop) (hK29 : ∀ (v0 : Nat) (v1 : Int32) (v2 : Int32) (v3 : Int32) (v4 : Int32) (Z : jZ) (I : jI) (L : jL), SH Z → jext Z0 Z → jle Z0 Z → jin B Z → jk Z v0 11 → K29 v0 v1 v2 v3 v4 Z I L → jJ G 5 29 [(0, .ref v0), (1, .int v1), (2, .int v2), (3, .int v3), (4, .int v4)] [] Z I L (jcz Z - jcz Z0) (jsz Z - jsz Z0)) (v0 : Nat) (v1 : Int32) (v2 : Int32) (v4 : Int32) (s0 : Int32) (Z : jZ) (I : jI) (L : jL) (hZ : SH Z) (hx : jext Z0 Z) (hc : jle Z0 Z) (hb : jin B Z) (kv0 : jk Z v0 11) (h : f_X11_market_b51 B K29 Q v0 v1 v2 v4 s0 Z I L) : jJ G 5 51 [(0, .ref v0), (1, .int v1), (2, .int v2), (4, .int v4)] [.int s0] Z I L (jcz Z - jcz Z0) (jsz Z - jsz Z0) := by
  refine j_istore_n E 3 [(3, .int s0), (0, .ref v0), (1, .int v1), (2, .int v2), (4, .int v4)] dX11_market_51 rfl (by decide) rfl ?_
  refine j_iload_n E dX11_market_52 3 rfl ?_
  refine j_iload_n E dX11_market_53 0 rfl ?_
  refine j_if_eq E 61 dX11_market_54 (by decide) (fun c18 => ?_) (fun c18 => ?_)
  · have h := h.1 c18
    refine j_iconst E (v := 1) dX11_market_61 (by decide) ?_
    refine j_sub [1, 2, 0, 4] rfl ?_
    exact m_X11_market_b62 E EU K29 hK29 v0 v1 s0 v4 v2 (1 : Int32) Z I L hZ hx hc hb kv0 h
  · have h := h.2 c18
    refine j_iconst E (v := 0) dX11_market_57 (by decide) ?_
    refine j_goto E 62 dX11_market_58 (by decide) ?_
    refine j_sub [1, 2, 0, 4] rfl ?_
    exact m_X11_market_b62 E EU K29 hK29 v0 v1 s0 v4 v2 (0 : Int32) Z I L hZ hx hc hb kv0 h
set_option maxRecDepth 100000 in
def f_X11_market_L29 (B : Nat × Nat)  (Q : Int32 → jZ → jI → jL → Prop) : Nat → Nat → Int32 → Int32 → Int32 → Int32 → jZ → jI → jL → Prop
  | 0 => fun _ _ _ _ _ _ _ _ => False
  | n + 1 => fun v0 v1 v2 v3 v4 Z I L => ((v1 ≤ v4 → f_X11_market_b70 B  Q v0 v2 v3 Z I L) ∧ (¬ (v1 ≤ v4) → ((¬ v3 = 0 → f_X11_market_b70 B  Q v0 v2 v3 Z I L) ∧ (v3 = 0 → (f_X11_haggle B v0 Z I L (fun r27 Z22 I23 L24 => ((¬ r27 = 0 → f_X11_market_b51 B (f_X11_market_L29 B Q n) Q v0 v1 v2 v4 (0 : Int32) Z22 I23 L24) ∧ (r27 = 0 → f_X11_market_b51 B (f_X11_market_L29 B Q n) Q v0 v1 v2 v4 (1 : Int32) Z22 I23 L24))))))))
set_option maxHeartbeats 4000000 in
set_option maxRecDepth 100000 in
theorem m_X11_market_L29 {G : jG} {Z0 : jZ} {B : Nat × Nat} {Q : Int32 → jZ → jI → jL → Prop} (E : jE G cX11_market RX11 w_X11_market 5 (some .int) (jrm B 7 188 Z0) jRF) (EU : jEU G B Z0 (urtI B Z0 Q))  : ∀ (n : Nat) (v0 : Nat) (v1 : Int32) (v2 : Int32) (v3 : Int32) (v4 : Int32) (Z : jZ) (I : jI) (L : jL), SH Z → jext Z0 Z → jle Z0 Z → jin B Z → jk Z v0 11 → f_X11_market_L29 B  Q n v0 v1 v2 v3 v4 Z I L → jJ G 5 29 [(0, .ref v0), (1, .int v1), (2, .int v2), (3, .int v3), (4, .int v4)] [] Z I L (jcz Z - jcz Z0) (jsz Z - jsz Z0) := by
  intro n
  induction n with
  | zero => intro v0 v1 v2 v3 v4 Z I L _ _ _ _ _ h; exact h.elim
  | succ n ih =>
    intro v0 v1 v2 v3 v4 Z I L hZ hx hc hb kv0 h
    have h : ((v1 ≤ v4 → f_X11_market_b70 B  Q v0 v2 v3 Z I L) ∧ (¬ (v1 ≤ v4) → ((¬ v3 = 0 → f_X11_market_b70 B  Q v0 v2 v3 Z I L) ∧ (v3 = 0 → (f_X11_haggle B v0 Z I L (fun r27 Z22 I23 L24 => ((¬ r27 = 0 → f_X11_market_b51 B (f_X11_market_L29 B Q n) Q v0 v1 v2 v4 (0 : Int32) Z22 I23 L24) ∧ (r27 = 0 → f_X11_market_b51 B (f_X11_market_L29 B Q n) Q v0 v1 v2 v4 (1 : Int32) Z22 I23 L24)))))))) := h
    obtain ⟨K29, eK29⟩ : ∃ K : Nat → Int32 → Int32 → Int32 → Int32 → jZ → jI → jL → Prop, K = f_X11_market_L29 B  Q n := ⟨_, rfl⟩
    have hK29 := ih
    clear eK29 K29
    generalize f_X11_market_L29 B  Q n = K29 at hK29 h
    refine j_iload E dX11_market_29 4 rfl ?_
    refine j_iload_n E dX11_market_31 1 rfl ?_
    refine j_icmp_ge E 70 dX11_market_32 (by decide) (fun c19 => ?_) (fun c19 => ?_)
    · have h := h.1 c19
      refine j_sub [0, 2, 3] rfl ?_
      exact m_X11_market_b70 E EU  v0 v2 v3 Z I L hZ hx hc hb kv0 h
    · have h := h.2 c19
      refine j_iload_n E dX11_market_35 3 rfl ?_
      refine j_if_ne E 70 dX11_market_36 (by decide) (fun c20 => ?_) (fun c20 => ?_)
      · have h := h.1 c20
        refine j_sub [0, 2, 3] rfl ?_
        exact m_X11_market_b70 E EU  v0 v2 v3 Z I L hZ hx hc hb kv0 h
      · have h := h.2 c20
        refine j_aload_n E dX11_market_39 0 rfl ?_
        refine ju_callV E [] [] (c_X11_haggle (gL G) (gD G) (gY G) B v0 Z I L _ hZ hb kv0 h) (gwV W_613 W_614 W_615 W_40 W_612) rfl ⟨rfl, fy_X11_haggle⟩ ⟨Nat.le_of_ble_eq_true rfl, Nat.le_of_ble_eq_true rfl⟩ (c := 11) rfl (by decide) kv0 rfl rfl (Nat.le_of_ble_eq_true rfl) (ju_f hc hb) dX11_market_40 (fun v21 Z22 I23 L24 q25 j26 => ?_)
        refine ju_next hc j26 ?_
        have hc := jle_trans hc j26
        obtain ⟨yZ22, hZ22, hbZ22, r27, rfl, zr27, h⟩ := q25
        have hZ := hZ22
        have hx : jext Z0 Z22 := jext_trans hx yZ22
        have hb := hbZ22
        have k28 := (yZ22 _ _ kv0).1
        show jJ G 5 43 [(0, .ref v0), (1, .int v1), (2, .int v2), (3, .int v3), (4, .int v4)] [.int r27] Z22 I23 L24 (jcz Z22 - jcz Z0) (jsz Z22 - jsz Z0)
        refine j_if_ne E 50 dX11_market_43 (by decide) (fun c29 => ?_) (fun c29 => ?_)
        · have h := h.1 c29
          refine j_iconst E (v := 0) dX11_market_50 (by decide) ?_
          refine j_sub [0, 1, 2, 4] rfl ?_
          exact m_X11_market_b51 E EU K29 hK29 v0 v1 v2 v4 (0 : Int32) Z22 I23 L24 hZ hx hc hb k28 h
        · have h := h.2 c29
          refine j_iconst E (v := 1) dX11_market_46 (by decide) ?_
          refine j_goto E 51 dX11_market_47 (by decide) ?_
          refine j_sub [0, 1, 2, 4] rfl ?_
          exact m_X11_market_b51 E EU K29 hK29 v0 v1 v2 v4 (1 : Int32) Z22 I23 L24 hZ hx hc hb k28 h
set_option maxRecDepth 100000 in
def f_X11_market (B : Nat × Nat) (v0 : Nat) (v1 : Int32) (Z : jZ) (I : jI) (L : jL) (Q : Int32 → jZ → jI → jL → Prop) : Prop := ((v1 < (1 : Int32) → Q (-1 : Int32) Z I L) ∧ (¬ (v1 < (1 : Int32)) → (((3 : Int32) < v1 → Q (-1 : Int32) Z I L) ∧ (¬ ((3 : Int32) < v1) → (∀ b32 : Nat, jr Z v0 2 = some b32 → ((¬ (I b32 9) = 0 → (∃ m29 : Nat, f_X11_market_L29 B  Q m29 v0 v1 (0 : Int32) (0 : Int32) (0 : Int32) Z I L)) ∧ ((I b32 9) = 0 → Q (-1 : Int32) Z I L)))))))
set_option maxHeartbeats 4000000 in
set_option maxRecDepth 100000 in
theorem c_X11_market (l : Launch) (D : va_G) (cy : jC) (B : Nat × Nat) (v0 : Nat) (v1 : Int32) (Z : jZ) (I : jI) (L : jL) (Q : Int32 → jZ → jI → jL → Prop) (hZ : SH Z) (hb : jin B Z) (kv0 : jk Z v0 11) (h : f_X11_market B v0 v1 Z I L Q) : jCtU l yX11_market w_X11_market B 7 188 D cy [.ref v0, .int v1] Z I L (urtI B Z Q) := by
  refine jCtU_of (cc := cX11_market) (maxL := 5) (ret := (some .int)) (by decide +kernel) rfl (Nat.le_of_ble_eq_true rfl) ?_
  intro G eD eY eL E EU
  subst eD; subst eY; subst eL
  have E : jE G cX11_market RX11 w_X11_market 5 (some .int) (jrm B 7 188 Z) jRF := E
  have hx : jext Z Z := jext_rfl
  have hc : jle Z Z := jle_rfl
  show jJ G 5 0 [(0, .ref v0), (1, .int v1)] [] Z I L (jcz Z - jcz Z) (jsz Z - jsz Z)
  refine j_iload_n E dX11_market_0 1 rfl ?_
  refine j_iconst E (v := 1) dX11_market_1 (by decide) ?_
  refine j_icmp_lt E 20 dX11_market_2 (by decide) (fun c30 => ?_) (fun c30 => ?_)
  · have h := h.1 c30
    refine j_iconst E (v := -1) dX11_market_20 (by decide) ?_
    exact ju_ireturn E EU hc hb ⟨hx, hZ, hb, _, rfl, h⟩ dX11_market_21
  · have h := h.2 c30
    refine j_iload_n E dX11_market_5 1 rfl ?_
    refine j_iconst E (v := 3) dX11_market_6 (by decide) ?_
    refine j_icmp_gt E 20 dX11_market_7 (by decide) (fun c31 => ?_) (fun c31 => ?_)
    · have h := h.1 c31
      refine j_iconst E (v := -1) dX11_market_20 (by decide) ?_
      exact ju_ireturn E EU hc hb ⟨hx, hZ, hb, _, rfl, h⟩ dX11_market_21
    · have h := h.2 c31
      refine j_aload_n E dX11_market_10 0 rfl ?_
      obtain ⟨b32, eb32, kb32⟩ := sh_o hZ kv0 (j := 2) (k := 8) rfl
      have h := h b32 eb32
      refine j_getr E 11 2 rfl rfl (by decide) (by decide) (iw iT_11) rfl rfl (tw W_454) kv0 eb32 dX11_market_11 ?_
      refine j_getiN E 8 9 rfl rfl (by decide) (by decide) (iw iT_8) rfl rfl (nw_8_9_X11_172) kb32 dX11_market_14 ?_
      refine j_if_ne E 22 dX11_market_17 (by decide) (fun c33 => ?_) (fun c33 => ?_)
      · have h := h.1 c33
        refine j_iconst E (v := 0) dX11_market_22 (by decide) ?_
        refine j_istore_n E 2 [(2, .int (0 : Int32)), (0, .ref v0), (1, .int v1)] dX11_market_23 rfl (by decide) rfl ?_
        refine j_iconst E (v := 0) dX11_market_24 (by decide) ?_
        refine j_istore_n E 3 [(3, .int (0 : Int32)), (2, .int (0 : Int32)), (0, .ref v0), (1, .int v1)] dX11_market_25 rfl (by decide) rfl ?_
        refine j_iconst E (v := 0) dX11_market_26 (by decide) ?_
        refine j_istore E 4 [(4, .int (0 : Int32)), (3, .int (0 : Int32)), (2, .int (0 : Int32)), (0, .ref v0), (1, .int v1)] dX11_market_27 (by decide) rfl ?_
        obtain ⟨n34, h⟩ := h
        refine j_sub [3, 4, 2, 1, 0] rfl ?_
        exact m_X11_market_L29 E EU  n34 v0 v1 (0 : Int32) (0 : Int32) (0 : Int32) Z I L hZ hx hc hb kv0 h
      · have h := h.2 c33
        refine j_iconst E (v := -1) dX11_market_20 (by decide) ?_
        exact ju_ireturn E EU hc hb ⟨hx, hZ, hb, _, rfl, h⟩ dX11_market_21
set_option maxRecDepth 100000 in
def f_X11_parts (v0 : Nat) (v1 : Int32) (v2 : Int32) (Z : jZ) (I : jI) (L : jL) (Q : Int32 → jI → jL → Prop) : Prop := (∀ b1 : Nat, jr Z v0 2 = some b1 → (f_X8_has b1 v1 Z I L (fun r8 I4 L5 => ((r8 = 0 → Q (-1 : Int32) I4 L5) ∧ (¬ (r8 = 0) → (f_X11_isFamily v2 Z I4 L5 (fun r16 I12 L13 => ((r16 = 0 → Q (-1 : Int32) I12 L13) ∧ (¬ (r16 = 0) → (∀ b18 : Nat, jr Z v0 2 = some b18 → (∀ b19 : Nat, jr Z b18 4 = some b19 → (f_X4_shareOf b19 v1 v2 Z I12 L13 (fun r26 I22 L23 => Q r26 I22 L23)))))))))))))
set_option maxHeartbeats 4000000 in
set_option maxRecDepth 100000 in
theorem c_X11_parts (l : Launch) (D : va_G) (cy : jC) (v0 : Nat) (v1 : Int32) (v2 : Int32) (Z : jZ) (I : jI) (L : jL) (Q : Int32 → jI → jL → Prop) (hZ : SH Z) (kv0 : jk Z v0 11) (h : f_X11_parts v0 v1 v2 Z I L Q) : jCt l yX11_parts w_X11_parts { frames := 2, cells := 0, slots := 0, locals := 42 } D cy [.ref v0, .int v1, .int v2] Z I L (rtI Z Q) := by
  refine jCt_of (cc := cX11_parts) (maxL := 3) (ret := (some .int)) (by decide +kernel) rfl (Nat.le_of_ble_eq_true rfl) ?_
  intro G eD eY eL E
  subst eD; subst eY; subst eL
  have E : jE G cX11_parts RX11 w_X11_parts 3 (some .int) { frames := 2, cells := 0, slots := 0, locals := 42 } (rtI Z Q) := E
  show jJ G 3 0 [(0, .ref v0), (1, .int v1), (2, .int v2)] [] Z I L 0 0
  refine j_aload_n E dX11_parts_0 0 rfl ?_
  obtain ⟨b1, eb1, kb1⟩ := sh_o hZ kv0 (j := 2) (k := 8) rfl
  have h := h b1 eb1
  refine j_getr E 11 2 rfl rfl (by decide) (by decide) (iw iT_11) rfl rfl (tw W_454) kv0 eb1 dX11_parts_1 ?_
  refine j_iload_n E dX11_parts_4 1 rfl ?_
  refine j_callV E [.int v1] [] (c_X8_has (gL G) (gD G) (gY G) b1 v1 Z I L _ hZ kb1 h) (gwV W_463 W_256 W_257 W_254 W_253) rfl ⟨rfl, fy_X8_has⟩ ⟨by decide, by decide⟩ (c := 8) rfl (by decide) kb1 rfl rfl (Nat.le_of_ble_eq_true rfl) ⟨Nat.zero_le _, Nat.zero_le _⟩ dX11_parts_5 (fun v2 Z3 I4 L5 q6 => ?_)
  obtain ⟨rfl, r8, rfl, zr8, h⟩ := q6
  show jJ G 3 8 [(0, .ref v0), (1, .int v1), (2, .int v2)] [.int r8] Z I4 L5 0 0
  refine j_if_eq E 33 dX11_parts_8 (by decide) (fun c9 => ?_) (fun c9 => ?_)
  · have h := h.1 c9
    refine j_iconst E (v := -1) dX11_parts_33 (by decide) ?_
    exact j_ireturn E ⟨rfl, _, rfl, h⟩ (Nat.zero_le _) (Nat.zero_le _) dX11_parts_34
  · have h := h.2 c9
    refine j_iload_n E dX11_parts_11 2 rfl ?_
    refine j_callS E [.int v2] [] (c_X11_isFamily (gL G) (gD G) (gY G) v2 Z I4 L5 _ hZ  h) (gwS W_476 W_220 W_40 W_219) rfl fy_X11_isFamily ⟨by decide, by decide⟩ rfl rfl (Nat.le_of_ble_eq_true rfl) ⟨Nat.zero_le _, Nat.zero_le _⟩ dX11_parts_12 (fun v10 Z11 I12 L13 q14 => ?_)
    obtain ⟨rfl, r16, rfl, zr16, h⟩ := q14
    show jJ G 3 15 [(0, .ref v0), (1, .int v1), (2, .int v2)] [.int r16] Z I12 L13 0 0
    refine j_if_eq E 33 dX11_parts_15 (by decide) (fun c17 => ?_) (fun c17 => ?_)
    · have h := h.1 c17
      refine j_iconst E (v := -1) dX11_parts_33 (by decide) ?_
      exact j_ireturn E ⟨rfl, _, rfl, h⟩ (Nat.zero_le _) (Nat.zero_le _) dX11_parts_34
    · have h := h.2 c17
      refine j_aload_n E dX11_parts_18 0 rfl ?_
      obtain ⟨b18, eb18, kb18⟩ := sh_o hZ kv0 (j := 2) (k := 8) rfl
      have h := h b18 eb18
      refine j_getr E 11 2 rfl rfl (by decide) (by decide) (iw iT_11) rfl rfl (tw W_454) kv0 eb18 dX11_parts_19 ?_
      obtain ⟨b19, eb19, kb19⟩ := sh_o hZ kb18 (j := 4) (k := 4) rfl
      have h := h b19 eb19
      refine j_getrN E 8 4 rfl rfl (by decide) (by decide) (iw iT_8) rfl rfl (nw_8_4_X11_160) kb18 eb19 dX11_parts_22 ?_
      refine j_iload_n E dX11_parts_25 1 rfl ?_
      refine j_iload_n E dX11_parts_26 2 rfl ?_
      refine j_callV E [.int v1, .int v2] [] (c_X4_shareOf (gL G) (gD G) (gY G) b19 v1 v2 Z I12 L13 _ hZ kb19 h) (gwV W_616 W_224 W_225 W_160 W_222) rfl ⟨rfl, fy_X4_shareOf⟩ ⟨by decide, by decide⟩ (c := 4) rfl (by decide) kb19 rfl rfl (Nat.le_of_ble_eq_true rfl) ⟨Nat.zero_le _, Nat.zero_le _⟩ dX11_parts_27 (fun v20 Z21 I22 L23 q24 => ?_)
      obtain ⟨rfl, r26, rfl, h⟩ := q24
      show jJ G 3 30 [(0, .ref v0), (1, .int v1), (2, .int v2)] [.int r26] Z I22 L23 0 0
      refine j_goto E 34 dX11_parts_30 (by decide) ?_
      exact j_ireturn E ⟨rfl, _, rfl, h⟩ (Nat.zero_le _) (Nat.zero_le _) dX11_parts_34
set_option maxRecDepth 100000 in
def f_X11_sells (v0 : Nat) (v1 : Int32) (v2 : Int32) (v3 : Int32) (v4 : Int32) (v5 : Int32) (Z : jZ) (I : jI) (L : jL) (Q : Int32 → jI → jL → Prop) : Prop := (∀ b1 : Nat, jr Z v0 2 = some b1 → (f_X8_has b1 v1 Z I L (fun r8 I4 L5 => ((r8 = 0 → Q (-1 : Int32) I4 L5) ∧ (¬ (r8 = 0) → (f_X11_isFamily v2 Z I4 L5 (fun r16 I12 L13 => ((r16 = 0 → Q (-1 : Int32) I12 L13) ∧ (¬ (r16 = 0) → (f_X11_isFamily v3 Z I12 L13 (fun r24 I20 L21 => ((r24 = 0 → Q (-1 : Int32) I20 L21) ∧ (¬ (r24 = 0) → ((¬ v2 = v3 → ((v4 < (1 : Int32) → Q (-1 : Int32) I20 L21) ∧ (¬ (v4 < (1 : Int32)) → (((9 : Int32) < v5 → Q (-1 : Int32) I20 L21) ∧ (¬ ((9 : Int32) < v5) → ((v4 ≤ v5 → (∀ b30 : Nat, jr Z v0 2 = some b30 → (∀ b31 : Nat, jr Z b30 4 = some b31 → (f_X4_shareOf b31 v1 v2 Z I20 L21 (fun r38 I34 L35 => (¬ v5 = 0 ∧ (∀ x40 : Int32, x40 = ((r38 * v4) / v5) → ((¬ x40 = 0 → (∀ b42 : Nat, jr Z v0 2 = some b42 → (∀ b43 : Nat, jr Z b42 4 = some b43 → (f_X4_remember b43 Z I34 L35 (fun I46 L47 => (∀ b50 : Nat, jr Z v0 2 = some b50 → (∀ b51 : Nat, jr Z b50 4 = some b51 → (f_X4_move b51 v1 v2 v3 x40 Z I46 L47 (fun I54 L55 => Q x40 I54 L55))))))))) ∧ (x40 = 0 → Q (-1 : Int32) I34 L35))))))))) ∧ (¬ (v4 ≤ v5) → Q (-1 : Int32) I20 L21))))))) ∧ (v2 = v3 → Q (-1 : Int32) I20 L21)))))))))))))))
set_option maxHeartbeats 4000000 in
set_option maxRecDepth 100000 in
theorem c_X11_sells (l : Launch) (D : va_G) (cy : jC) (v0 : Nat) (v1 : Int32) (v2 : Int32) (v3 : Int32) (v4 : Int32) (v5 : Int32) (Z : jZ) (I : jI) (L : jL) (Q : Int32 → jI → jL → Prop) (hZ : SH Z) (kv0 : jk Z v0 11) (h : f_X11_sells v0 v1 v2 v3 v4 v5 Z I L Q) : jCt l yX11_sells w_X11_sells { frames := 2, cells := 0, slots := 0, locals := 69 } D cy [.ref v0, .int v1, .int v2, .int v3, .int v4, .int v5] Z I L (rtI Z Q) := by
  refine jCt_of (cc := cX11_sells) (maxL := 7) (ret := (some .int)) (by decide +kernel) rfl (Nat.le_of_ble_eq_true rfl) ?_
  intro G eD eY eL E
  subst eD; subst eY; subst eL
  have E : jE G cX11_sells RX11 w_X11_sells 7 (some .int) { frames := 2, cells := 0, slots := 0, locals := 69 } (rtI Z Q) := E
  show jJ G 7 0 [(0, .ref v0), (1, .int v1), (2, .int v2), (3, .int v3), (4, .int v4), (5, .int v5)] [] Z I L 0 0
  refine j_aload_n E dX11_sells_0 0 rfl ?_
  obtain ⟨b1, eb1, kb1⟩ := sh_o hZ kv0 (j := 2) (k := 8) rfl
  have h := h b1 eb1
  refine j_getr E 11 2 rfl rfl (by decide) (by decide) (iw iT_11) rfl rfl (tw W_454) kv0 eb1 dX11_sells_1 ?_
  refine j_iload_n E dX11_sells_4 1 rfl ?_
  refine j_callV E [.int v1] [] (c_X8_has (gL G) (gD G) (gY G) b1 v1 Z I L _ hZ kb1 h) (gwV W_463 W_256 W_257 W_254 W_253) rfl ⟨rfl, fy_X8_has⟩ ⟨by decide, by decide⟩ (c := 8) rfl (by decide) kb1 rfl rfl (Nat.le_of_ble_eq_true rfl) ⟨Nat.zero_le _, Nat.zero_le _⟩ dX11_sells_5 (fun v2 Z3 I4 L5 q6 => ?_)
  obtain ⟨rfl, r8, rfl, zr8, h⟩ := q6
  show jJ G 7 8 [(0, .ref v0), (1, .int v1), (2, .int v2), (3, .int v3), (4, .int v4), (5, .int v5)] [.int r8] Z I4 L5 0 0
  refine j_if_eq E 30 dX11_sells_8 (by decide) (fun c9 => ?_) (fun c9 => ?_)
  · have h := h.1 c9
    refine j_iconst E (v := -1) dX11_sells_30 (by decide) ?_
    exact j_ireturn E ⟨rfl, _, rfl, h⟩ (Nat.zero_le _) (Nat.zero_le _) dX11_sells_31
  · have h := h.2 c9
    refine j_iload_n E dX11_sells_11 2 rfl ?_
    refine j_callS E [.int v2] [] (c_X11_isFamily (gL G) (gD G) (gY G) v2 Z I4 L5 _ hZ  h) (gwS W_476 W_220 W_40 W_219) rfl fy_X11_isFamily ⟨by decide, by decide⟩ rfl rfl (Nat.le_of_ble_eq_true rfl) ⟨Nat.zero_le _, Nat.zero_le _⟩ dX11_sells_12 (fun v10 Z11 I12 L13 q14 => ?_)
    obtain ⟨rfl, r16, rfl, zr16, h⟩ := q14
    show jJ G 7 15 [(0, .ref v0), (1, .int v1), (2, .int v2), (3, .int v3), (4, .int v4), (5, .int v5)] [.int r16] Z I12 L13 0 0
    refine j_if_eq E 30 dX11_sells_15 (by decide) (fun c17 => ?_) (fun c17 => ?_)
    · have h := h.1 c17
      refine j_iconst E (v := -1) dX11_sells_30 (by decide) ?_
      exact j_ireturn E ⟨rfl, _, rfl, h⟩ (Nat.zero_le _) (Nat.zero_le _) dX11_sells_31
    · have h := h.2 c17
      refine j_iload_n E dX11_sells_18 3 rfl ?_
      refine j_callS E [.int v3] [] (c_X11_isFamily (gL G) (gD G) (gY G) v3 Z I12 L13 _ hZ  h) (gwS W_476 W_220 W_40 W_219) rfl fy_X11_isFamily ⟨by decide, by decide⟩ rfl rfl (Nat.le_of_ble_eq_true rfl) ⟨Nat.zero_le _, Nat.zero_le _⟩ dX11_sells_19 (fun v18 Z19 I20 L21 q22 => ?_)
      obtain ⟨rfl, r24, rfl, zr24, h⟩ := q22
      show jJ G 7 22 [(0, .ref v0), (1, .int v1), (2, .int v2), (3, .int v3), (4, .int v4), (5, .int v5)] [.int r24] Z I20 L21 0 0
      refine j_if_eq E 30 dX11_sells_22 (by decide) (fun c25 => ?_) (fun c25 => ?_)
      · have h := h.1 c25
        refine j_iconst E (v := -1) dX11_sells_30 (by decide) ?_
        exact j_ireturn E ⟨rfl, _, rfl, h⟩ (Nat.zero_le _) (Nat.zero_le _) dX11_sells_31
      · have h := h.2 c25
        refine j_iload_n E dX11_sells_25 2 rfl ?_
        refine j_iload_n E dX11_sells_26 3 rfl ?_
        refine j_icmp_ne E 32 dX11_sells_27 (by decide) (fun c26 => ?_) (fun c26 => ?_)
        · have h := h.1 c26
          refine j_iload E dX11_sells_32 4 rfl ?_
          refine j_iconst E (v := 1) dX11_sells_34 (by decide) ?_
          refine j_icmp_lt E 52 dX11_sells_35 (by decide) (fun c27 => ?_) (fun c27 => ?_)
          · have h := h.1 c27
            refine j_iconst E (v := -1) dX11_sells_52 (by decide) ?_
            exact j_ireturn E ⟨rfl, _, rfl, h⟩ (Nat.zero_le _) (Nat.zero_le _) dX11_sells_53
          · have h := h.2 c27
            refine j_iload E dX11_sells_38 5 rfl ?_
            refine j_bipush E (v := 9) dX11_sells_40 (by decide) ?_
            refine j_icmp_gt E 52 dX11_sells_42 (by decide) (fun c28 => ?_) (fun c28 => ?_)
            · have h := h.1 c28
              refine j_iconst E (v := -1) dX11_sells_52 (by decide) ?_
              exact j_ireturn E ⟨rfl, _, rfl, h⟩ (Nat.zero_le _) (Nat.zero_le _) dX11_sells_53
            · have h := h.2 c28
              refine j_iload E dX11_sells_45 4 rfl ?_
              refine j_iload E dX11_sells_47 5 rfl ?_
              refine j_icmp_le E 54 dX11_sells_49 (by decide) (fun c29 => ?_) (fun c29 => ?_)
              · have h := h.1 c29
                refine j_aload_n E dX11_sells_54 0 rfl ?_
                obtain ⟨b30, eb30, kb30⟩ := sh_o hZ kv0 (j := 2) (k := 8) rfl
                have h := h b30 eb30
                refine j_getr E 11 2 rfl rfl (by decide) (by decide) (iw iT_11) rfl rfl (tw W_454) kv0 eb30 dX11_sells_55 ?_
                obtain ⟨b31, eb31, kb31⟩ := sh_o hZ kb30 (j := 4) (k := 4) rfl
                have h := h b31 eb31
                refine j_getrN E 8 4 rfl rfl (by decide) (by decide) (iw iT_8) rfl rfl (nw_8_4_X11_160) kb30 eb31 dX11_sells_58 ?_
                refine j_iload_n E dX11_sells_61 1 rfl ?_
                refine j_iload_n E dX11_sells_62 2 rfl ?_
                refine j_callV E [.int v1, .int v2] [] (c_X4_shareOf (gL G) (gD G) (gY G) b31 v1 v2 Z I20 L21 _ hZ kb31 h) (gwV W_616 W_224 W_225 W_160 W_222) rfl ⟨rfl, fy_X4_shareOf⟩ ⟨by decide, by decide⟩ (c := 4) rfl (by decide) kb31 rfl rfl (Nat.le_of_ble_eq_true rfl) ⟨Nat.zero_le _, Nat.zero_le _⟩ dX11_sells_63 (fun v32 Z33 I34 L35 q36 => ?_)
                obtain ⟨rfl, r38, rfl, h⟩ := q36
                show jJ G 7 66 [(0, .ref v0), (1, .int v1), (2, .int v2), (3, .int v3), (4, .int v4), (5, .int v5)] [.int r38] Z I34 L35 0 0
                refine j_iload E dX11_sells_66 4 rfl ?_
                refine j_imul E dX11_sells_68 ?_
                refine j_iload E dX11_sells_69 5 rfl ?_
                obtain ⟨o39, h⟩ := h
                refine j_idiv E dX11_sells_71 o39 ?_
                refine j_topi (fun x40 ex40 => ?_)
                have h := h x40 ex40
                refine j_istore E 6 [(6, .int x40), (0, .ref v0), (1, .int v1), (2, .int v2), (3, .int v3), (4, .int v4), (5, .int v5)] dX11_sells_72 (by decide) rfl ?_
                refine j_iload E dX11_sells_74 0 rfl ?_
                refine j_if_ne E 81 dX11_sells_76 (by decide) (fun c41 => ?_) (fun c41 => ?_)
                · have h := h.1 c41
                  refine j_aload_n E dX11_sells_81 1 rfl ?_
                  obtain ⟨b42, eb42, kb42⟩ := sh_o hZ kv0 (j := 2) (k := 8) rfl
                  have h := h b42 eb42
                  refine j_getr E 11 2 rfl rfl (by decide) (by decide) (iw iT_11) rfl rfl (tw W_454) kv0 eb42 dX11_sells_82 ?_
                  obtain ⟨b43, eb43, kb43⟩ := sh_o hZ kb42 (j := 4) (k := 4) rfl
                  have h := h b43 eb43
                  refine j_getrN E 8 4 rfl rfl (by decide) (by decide) (iw iT_8) rfl rfl (nw_8_4_X11_160) kb42 eb43 dX11_sells_85 ?_
                  refine j_callV E [] [] (c_X4_remember (gL G) (gD G) (gY G) b43 Z I34 L35 _ hZ kb43 h) (gwV W_618 W_619 W_620 W_160 W_617) rfl ⟨rfl, fy_X4_remember⟩ ⟨by decide, by decide⟩ (c := 4) rfl (by decide) kb43 rfl rfl (Nat.le_of_ble_eq_true rfl) ⟨Nat.zero_le _, Nat.zero_le _⟩ dX11_sells_88 (fun v44 Z45 I46 L47 q48 => ?_)
                  obtain ⟨rfl, rfl, h⟩ := q48
                  show jJ G 7 91 [(6, .int x40), (0, .ref v0), (1, .int v1), (2, .int v2), (3, .int v3), (4, .int v4), (5, .int v5)] [] Z I46 L47 0 0
                  refine j_aload_n E dX11_sells_91 1 rfl ?_
                  obtain ⟨b50, eb50, kb50⟩ := sh_o hZ kv0 (j := 2) (k := 8) rfl
                  have h := h b50 eb50
                  refine j_getr E 11 2 rfl rfl (by decide) (by decide) (iw iT_11) rfl rfl (tw W_454) kv0 eb50 dX11_sells_92 ?_
                  obtain ⟨b51, eb51, kb51⟩ := sh_o hZ kb50 (j := 4) (k := 4) rfl
                  have h := h b51 eb51
                  refine j_getrN E 8 4 rfl rfl (by decide) (by decide) (iw iT_8) rfl rfl (nw_8_4_X11_160) kb50 eb51 dX11_sells_95 ?_
                  refine j_iload_n E dX11_sells_98 2 rfl ?_
                  refine j_iload_n E dX11_sells_99 3 rfl ?_
                  refine j_iload_n E dX11_sells_100 4 rfl ?_
                  refine j_iload E dX11_sells_101 0 rfl ?_
                  refine j_callV E [.int v1, .int v2, .int v3, .int x40] [] (c_X4_move (gL G) (gD G) (gY G) b51 v1 v2 v3 x40 Z I46 L47 _ hZ kb51 h) (gwV W_621 W_237 W_238 W_160 W_235) rfl ⟨rfl, fy_X4_move⟩ ⟨by decide, by decide⟩ (c := 4) rfl (by decide) kb51 rfl rfl (Nat.le_of_ble_eq_true rfl) ⟨Nat.zero_le _, Nat.zero_le _⟩ dX11_sells_103 (fun v52 Z53 I54 L55 q56 => ?_)
                  obtain ⟨rfl, rfl, h⟩ := q56
                  show jJ G 7 106 [(6, .int x40), (0, .ref v0), (1, .int v1), (2, .int v2), (3, .int v3), (4, .int v4), (5, .int v5)] [] Z I54 L55 0 0
                  refine j_iload E dX11_sells_106 0 rfl ?_
                  exact j_ireturn E ⟨rfl, _, rfl, h⟩ (Nat.zero_le _) (Nat.zero_le _) dX11_sells_108
                · have h := h.2 c41
                  refine j_iconst E (v := -1) dX11_sells_79 (by decide) ?_
                  exact j_ireturn E ⟨rfl, _, rfl, h⟩ (Nat.zero_le _) (Nat.zero_le _) dX11_sells_80
              · have h := h.2 c29
                refine j_iconst E (v := -1) dX11_sells_52 (by decide) ?_
                exact j_ireturn E ⟨rfl, _, rfl, h⟩ (Nat.zero_le _) (Nat.zero_le _) dX11_sells_53
        · have h := h.2 c26
          refine j_iconst E (v := -1) dX11_sells_30 (by decide) ?_
          exact j_ireturn E ⟨rfl, _, rfl, h⟩ (Nat.zero_le _) (Nat.zero_le _) dX11_sells_31
set_option maxRecDepth 100000 in
def f_X11_dies_L58  (Z : jZ) (Q : Int32 → jI → jL → Prop) : Nat → Nat → Int32 → Int32 → Int32 → Int32 → jI → jL → Prop
  | 0 => fun _ _ _ _ _ _ _ => False
  | n + 1 => fun v0 v1 v2 v3 v4 I L => (∀ b1 : Nat, jr Z v0 2 = some b1 → (((I b1 9) ≤ v4 → Q v3 I L) ∧ (¬ ((I b1 9) ≤ v4) → (∀ b3 : Nat, jr Z v0 2 = some b3 → (∀ b4 : Nat, jr Z b3 4 = some b4 → (f_X4_inherit b4 v4 v1 v2 Z I L (fun I7 L8 => (∀ x11 : Int32, x11 = v4 + 1 → (f_X11_dies_L58 Z Q n) v0 v1 v2 v3 x11 I7 L8))))))))
set_option maxHeartbeats 4000000 in
set_option maxRecDepth 100000 in
theorem m_X11_dies_L58 {G : jG} {Z : jZ} {Q : Int32 → jI → jL → Prop} (E : jE G cX11_dies RX11 w_X11_dies 5 (some .int) { frames := 3, cells := 0, slots := 0, locals := 74 } (rtI Z Q)) (hZ : SH Z)  : ∀ (n : Nat) (v0 : Nat) (v1 : Int32) (v2 : Int32) (v3 : Int32) (v4 : Int32) (I : jI) (L : jL), jk Z v0 11 → f_X11_dies_L58  Z Q n v0 v1 v2 v3 v4 I L → jJ G 5 58 [(0, .ref v0), (1, .int v1), (2, .int v2), (3, .int v3), (4, .int v4)] [] Z I L 0 0 := by
  intro n
  induction n with
  | zero => intro v0 v1 v2 v3 v4 I L _ h; exact h.elim
  | succ n ih =>
    intro v0 v1 v2 v3 v4 I L kv0 h
    have h : (∀ b1 : Nat, jr Z v0 2 = some b1 → (((I b1 9) ≤ v4 → Q v3 I L) ∧ (¬ ((I b1 9) ≤ v4) → (∀ b3 : Nat, jr Z v0 2 = some b3 → (∀ b4 : Nat, jr Z b3 4 = some b4 → (f_X4_inherit b4 v4 v1 v2 Z I L (fun I7 L8 => (∀ x11 : Int32, x11 = v4 + 1 → (f_X11_dies_L58 Z Q n) v0 v1 v2 v3 x11 I7 L8)))))))) := h
    obtain ⟨K58, eK58⟩ : ∃ K : Nat → Int32 → Int32 → Int32 → Int32 → jI → jL → Prop, K = f_X11_dies_L58  Z Q n := ⟨_, rfl⟩
    have hK58 := ih
    clear eK58 K58
    generalize f_X11_dies_L58  Z Q n = K58 at hK58 h
    refine j_iload E dX11_dies_58 4 rfl ?_
    refine j_aload_n E dX11_dies_60 0 rfl ?_
    obtain ⟨b1, eb1, kb1⟩ := sh_o hZ kv0 (j := 2) (k := 8) rfl
    have h := h b1 eb1
    refine j_getr E 11 2 rfl rfl (by decide) (by decide) (iw iT_11) rfl rfl (tw W_454) kv0 eb1 dX11_dies_61 ?_
    refine j_getiN E 8 9 rfl rfl (by decide) (by decide) (iw iT_8) rfl rfl (nw_8_9_X11_172) kb1 dX11_dies_64 ?_
    refine j_icmp_ge E 90 dX11_dies_67 (by decide) (fun c2 => ?_) (fun c2 => ?_)
    · have h := h.1 c2
      refine j_iload_n E dX11_dies_90 3 rfl ?_
      exact j_ireturn E ⟨rfl, _, rfl, h⟩ (Nat.zero_le _) (Nat.zero_le _) dX11_dies_91
    · have h := h.2 c2
      refine j_aload_n E dX11_dies_70 0 rfl ?_
      obtain ⟨b3, eb3, kb3⟩ := sh_o hZ kv0 (j := 2) (k := 8) rfl
      have h := h b3 eb3
      refine j_getr E 11 2 rfl rfl (by decide) (by decide) (iw iT_11) rfl rfl (tw W_454) kv0 eb3 dX11_dies_71 ?_
      obtain ⟨b4, eb4, kb4⟩ := sh_o hZ kb3 (j := 4) (k := 4) rfl
      have h := h b4 eb4
      refine j_getrN E 8 4 rfl rfl (by decide) (by decide) (iw iT_8) rfl rfl (nw_8_4_X11_160) kb3 eb4 dX11_dies_74 ?_
      refine j_iload E dX11_dies_77 4 rfl ?_
      refine j_iload_n E dX11_dies_79 1 rfl ?_
      refine j_iload_n E dX11_dies_80 2 rfl ?_
      refine j_callV E [.int v4, .int v1, .int v2] [] (c_X4_inherit (gL G) (gD G) (gY G) b4 v4 v1 v2 Z I L _ hZ kb4 h) (gwV W_623 W_624 W_625 W_160 W_622) rfl ⟨rfl, fy_X4_inherit⟩ ⟨by decide, by decide⟩ (c := 4) rfl (by decide) kb4 rfl rfl (Nat.le_of_ble_eq_true rfl) ⟨Nat.zero_le _, Nat.zero_le _⟩ dX11_dies_81 (fun v5 Z6 I7 L8 q9 => ?_)
      obtain ⟨rfl, rfl, h⟩ := q9
      show jJ G 5 84 [(0, .ref v0), (1, .int v1), (2, .int v2), (3, .int v3), (4, .int v4)] [] Z I7 L8 0 0
      obtain ⟨x11, ex11⟩ : ∃ y : Int32, y = v4 + 1 := ⟨_, rfl⟩
      have h := h x11 ex11
      refine j_iinc E x11 [(4, .int x11), (0, .ref v0), (1, .int v1), (2, .int v2), (3, .int v3)] dX11_dies_84 4 rfl (by rw [ex11]; rfl) (by decide) rfl ?_
      refine j_goto E 58 dX11_dies_87 (by decide) ?_
      refine j_sub [1, 2, 3, 4, 0] rfl ?_
      exact hK58 v0 v1 v2 v3 x11 I7 L8 kv0 h
set_option maxRecDepth 100000 in
def f_X11_dies (v0 : Nat) (v1 : Int32) (v2 : Int32) (Z : jZ) (I : jI) (L : jL) (Q : Int32 → jI → jL → Prop) : Prop := (f_X11_isFamily v1 Z I L (fun r18 I14 L15 => ((r18 = 0 → Q (-1 : Int32) I14 L15) ∧ (¬ (r18 = 0) → ((v2 < (1 : Int32) → Q (-1 : Int32) I14 L15) ∧ (¬ (v2 < (1 : Int32)) → (((255 : Int32) < v2 → Q (-1 : Int32) I14 L15) ∧ (¬ ((255 : Int32) < v2) → ((((v2 >>> (v1 &&& 31)) &&& (1 : Int32)) = 0 → (∀ b23 : Nat, jr Z v0 2 = some b23 → (∀ b24 : Nat, jr Z b23 4 = some b24 → (f_X4_sumOf b24 v1 Z I14 L15 (fun r31 I27 L28 => ((r31 ≤ 0 → Q r31 I27 L28) ∧ (¬ (r31 ≤ 0) → (∀ b33 : Nat, jr Z v0 2 = some b33 → (∀ b34 : Nat, jr Z b33 4 = some b34 → (f_X4_remember b34 Z I27 L28 (fun I37 L38 => (∃ m58 : Nat, f_X11_dies_L58  Z Q m58 v0 v1 v2 r31 (0 : Int32) I37 L38)))))))))))) ∧ (¬ (((v2 >>> (v1 &&& 31)) &&& (1 : Int32)) = 0) → Q (-1 : Int32) I14 L15))))))))))
set_option maxHeartbeats 4000000 in
set_option maxRecDepth 100000 in
theorem c_X11_dies (l : Launch) (D : va_G) (cy : jC) (v0 : Nat) (v1 : Int32) (v2 : Int32) (Z : jZ) (I : jI) (L : jL) (Q : Int32 → jI → jL → Prop) (hZ : SH Z) (kv0 : jk Z v0 11) (h : f_X11_dies v0 v1 v2 Z I L Q) : jCt l yX11_dies w_X11_dies { frames := 3, cells := 0, slots := 0, locals := 74 } D cy [.ref v0, .int v1, .int v2] Z I L (rtI Z Q) := by
  refine jCt_of (cc := cX11_dies) (maxL := 5) (ret := (some .int)) (by decide +kernel) rfl (Nat.le_of_ble_eq_true rfl) ?_
  intro G eD eY eL E
  subst eD; subst eY; subst eL
  have E : jE G cX11_dies RX11 w_X11_dies 5 (some .int) { frames := 3, cells := 0, slots := 0, locals := 74 } (rtI Z Q) := E
  show jJ G 5 0 [(0, .ref v0), (1, .int v1), (2, .int v2)] [] Z I L 0 0
  refine j_iload_n E dX11_dies_0 1 rfl ?_
  refine j_callS E [.int v1] [] (c_X11_isFamily (gL G) (gD G) (gY G) v1 Z I L _ hZ  h) (gwS W_476 W_220 W_40 W_219) rfl fy_X11_isFamily ⟨by decide, by decide⟩ rfl rfl (Nat.le_of_ble_eq_true rfl) ⟨Nat.zero_le _, Nat.zero_le _⟩ dX11_dies_1 (fun v12 Z13 I14 L15 q16 => ?_)
  obtain ⟨rfl, r18, rfl, zr18, h⟩ := q16
  show jJ G 5 4 [(0, .ref v0), (1, .int v1), (2, .int v2)] [.int r18] Z I14 L15 0 0
  refine j_if_eq E 27 dX11_dies_4 (by decide) (fun c19 => ?_) (fun c19 => ?_)
  · have h := h.1 c19
    refine j_iconst E (v := -1) dX11_dies_27 (by decide) ?_
    exact j_ireturn E ⟨rfl, _, rfl, h⟩ (Nat.zero_le _) (Nat.zero_le _) dX11_dies_28
  · have h := h.2 c19
    refine j_iload_n E dX11_dies_7 2 rfl ?_
    refine j_iconst E (v := 1) dX11_dies_8 (by decide) ?_
    refine j_icmp_lt E 27 dX11_dies_9 (by decide) (fun c20 => ?_) (fun c20 => ?_)
    · have h := h.1 c20
      refine j_iconst E (v := -1) dX11_dies_27 (by decide) ?_
      exact j_ireturn E ⟨rfl, _, rfl, h⟩ (Nat.zero_le _) (Nat.zero_le _) dX11_dies_28
    · have h := h.2 c20
      refine j_iload_n E dX11_dies_12 2 rfl ?_
      refine j_sipush E (v := 255) dX11_dies_13 (by decide) ?_
      refine j_icmp_gt E 27 dX11_dies_16 (by decide) (fun c21 => ?_) (fun c21 => ?_)
      · have h := h.1 c21
        refine j_iconst E (v := -1) dX11_dies_27 (by decide) ?_
        exact j_ireturn E ⟨rfl, _, rfl, h⟩ (Nat.zero_le _) (Nat.zero_le _) dX11_dies_28
      · have h := h.2 c21
        refine j_iload_n E dX11_dies_19 2 rfl ?_
        refine j_iload_n E dX11_dies_20 1 rfl ?_
        refine j_ishr E dX11_dies_21 ?_
        refine j_iconst E (v := 1) dX11_dies_22 (by decide) ?_
        refine j_iand E dX11_dies_23 ?_
        refine j_if_eq E 29 dX11_dies_24 (by decide) (fun c22 => ?_) (fun c22 => ?_)
        · have h := h.1 c22
          refine j_aload_n E dX11_dies_29 0 rfl ?_
          obtain ⟨b23, eb23, kb23⟩ := sh_o hZ kv0 (j := 2) (k := 8) rfl
          have h := h b23 eb23
          refine j_getr E 11 2 rfl rfl (by decide) (by decide) (iw iT_11) rfl rfl (tw W_454) kv0 eb23 dX11_dies_30 ?_
          obtain ⟨b24, eb24, kb24⟩ := sh_o hZ kb23 (j := 4) (k := 4) rfl
          have h := h b24 eb24
          refine j_getrN E 8 4 rfl rfl (by decide) (by decide) (iw iT_8) rfl rfl (nw_8_4_X11_160) kb23 eb24 dX11_dies_33 ?_
          refine j_iload_n E dX11_dies_36 1 rfl ?_
          refine j_callV E [.int v1] [] (c_X4_sumOf (gL G) (gD G) (gY G) b24 v1 Z I14 L15 _ hZ kb24 h) (gwV W_528 W_228 W_229 W_160 W_226) rfl ⟨rfl, fy_X4_sumOf⟩ ⟨by decide, by decide⟩ (c := 4) rfl (by decide) kb24 rfl rfl (Nat.le_of_ble_eq_true rfl) ⟨Nat.zero_le _, Nat.zero_le _⟩ dX11_dies_37 (fun v25 Z26 I27 L28 q29 => ?_)
          obtain ⟨rfl, r31, rfl, h⟩ := q29
          show jJ G 5 40 [(0, .ref v0), (1, .int v1), (2, .int v2)] [.int r31] Z I27 L28 0 0
          refine j_istore_n E 3 [(3, .int r31), (0, .ref v0), (1, .int v1), (2, .int v2)] dX11_dies_40 rfl (by decide) rfl ?_
          refine j_iload_n E dX11_dies_41 0 rfl ?_
          refine j_if_le E 90 dX11_dies_42 (by decide) (fun c32 => ?_) (fun c32 => ?_)
          · have h := h.1 c32
            refine j_iload_n E dX11_dies_90 0 rfl ?_
            exact j_ireturn E ⟨rfl, _, rfl, h⟩ (Nat.zero_le _) (Nat.zero_le _) dX11_dies_91
          · have h := h.2 c32
            refine j_aload_n E dX11_dies_45 1 rfl ?_
            obtain ⟨b33, eb33, kb33⟩ := sh_o hZ kv0 (j := 2) (k := 8) rfl
            have h := h b33 eb33
            refine j_getr E 11 2 rfl rfl (by decide) (by decide) (iw iT_11) rfl rfl (tw W_454) kv0 eb33 dX11_dies_46 ?_
            obtain ⟨b34, eb34, kb34⟩ := sh_o hZ kb33 (j := 4) (k := 4) rfl
            have h := h b34 eb34
            refine j_getrN E 8 4 rfl rfl (by decide) (by decide) (iw iT_8) rfl rfl (nw_8_4_X11_160) kb33 eb34 dX11_dies_49 ?_
            refine j_callV E [] [] (c_X4_remember (gL G) (gD G) (gY G) b34 Z I27 L28 _ hZ kb34 h) (gwV W_618 W_619 W_620 W_160 W_617) rfl ⟨rfl, fy_X4_remember⟩ ⟨by decide, by decide⟩ (c := 4) rfl (by decide) kb34 rfl rfl (Nat.le_of_ble_eq_true rfl) ⟨Nat.zero_le _, Nat.zero_le _⟩ dX11_dies_52 (fun v35 Z36 I37 L38 q39 => ?_)
            obtain ⟨rfl, rfl, h⟩ := q39
            show jJ G 5 55 [(3, .int r31), (0, .ref v0), (1, .int v1), (2, .int v2)] [] Z I37 L38 0 0
            refine j_iconst E (v := 0) dX11_dies_55 (by decide) ?_
            refine j_istore E 4 [(4, .int (0 : Int32)), (3, .int r31), (0, .ref v0), (1, .int v1), (2, .int v2)] dX11_dies_56 (by decide) rfl ?_
            obtain ⟨n41, h⟩ := h
            refine j_sub [2, 3, 4, 1, 0] rfl ?_
            exact m_X11_dies_L58 E hZ  n41 v0 v1 v2 r31 (0 : Int32) I37 L38 kv0 h
        · have h := h.2 c22
          refine j_iconst E (v := -1) dX11_dies_27 (by decide) ?_
          exact j_ireturn E ⟨rfl, _, rfl, h⟩ (Nat.zero_le _) (Nat.zero_le _) dX11_dies_28
set_option maxRecDepth 100000 in
def f_X11_undo (v0 : Nat) (Z : jZ) (I : jI) (L : jL) (Q : Int32 → jI → jL → Prop) : Prop := (∀ b1 : Nat, jr Z v0 2 = some b1 → (∀ b2 : Nat, jr Z b1 4 = some b2 → (f_X4_takeBack b2 Z I L (fun r9 I5 L6 => ((r9 = 0 → Q (-1 : Int32) I5 L6) ∧ (¬ (r9 = 0) → (∀ b11 : Nat, jr Z v0 2 = some b11 → (∀ b12 : Nat, jr Z b11 4 = some b12 → Q (I5 b12 4) I5 L6))))))))
set_option maxHeartbeats 4000000 in
set_option maxRecDepth 100000 in
theorem c_X11_undo (l : Launch) (D : va_G) (cy : jC) (v0 : Nat) (Z : jZ) (I : jI) (L : jL) (Q : Int32 → jI → jL → Prop) (hZ : SH Z) (kv0 : jk Z v0 11) (h : f_X11_undo v0 Z I L Q) : jCt l yX11_undo w_X11_undo { frames := 3, cells := 0, slots := 0, locals := 69 } D cy [.ref v0] Z I L (rtI Z Q) := by
  refine jCt_of (cc := cX11_undo) (maxL := 1) (ret := (some .int)) (by decide +kernel) rfl (Nat.le_of_ble_eq_true rfl) ?_
  intro G eD eY eL E
  subst eD; subst eY; subst eL
  have E : jE G cX11_undo RX11 w_X11_undo 1 (some .int) { frames := 3, cells := 0, slots := 0, locals := 69 } (rtI Z Q) := E
  show jJ G 1 0 [(0, .ref v0)] [] Z I L 0 0
  refine j_aload_n E dX11_undo_0 0 rfl ?_
  obtain ⟨b1, eb1, kb1⟩ := sh_o hZ kv0 (j := 2) (k := 8) rfl
  have h := h b1 eb1
  refine j_getr E 11 2 rfl rfl (by decide) (by decide) (iw iT_11) rfl rfl (tw W_454) kv0 eb1 dX11_undo_1 ?_
  obtain ⟨b2, eb2, kb2⟩ := sh_o hZ kb1 (j := 4) (k := 4) rfl
  have h := h b2 eb2
  refine j_getrN E 8 4 rfl rfl (by decide) (by decide) (iw iT_8) rfl rfl (nw_8_4_X11_160) kb1 eb2 dX11_undo_4 ?_
  refine j_callV E [] [] (c_X4_takeBack (gL G) (gD G) (gY G) b2 Z I L _ hZ kb2 h) (gwV W_627 W_628 W_629 W_160 W_626) rfl ⟨rfl, fy_X4_takeBack⟩ ⟨by decide, by decide⟩ (c := 4) rfl (by decide) kb2 rfl rfl (Nat.le_of_ble_eq_true rfl) ⟨Nat.zero_le _, Nat.zero_le _⟩ dX11_undo_7 (fun v3 Z4 I5 L6 q7 => ?_)
  obtain ⟨rfl, r9, rfl, zr9, h⟩ := q7
  show jJ G 1 10 [(0, .ref v0)] [.int r9] Z I5 L6 0 0
  refine j_if_eq E 26 dX11_undo_10 (by decide) (fun c10 => ?_) (fun c10 => ?_)
  · have h := h.1 c10
    refine j_iconst E (v := -1) dX11_undo_26 (by decide) ?_
    exact j_ireturn E ⟨rfl, _, rfl, h⟩ (Nat.zero_le _) (Nat.zero_le _) dX11_undo_27
  · have h := h.2 c10
    refine j_aload_n E dX11_undo_13 0 rfl ?_
    obtain ⟨b11, eb11, kb11⟩ := sh_o hZ kv0 (j := 2) (k := 8) rfl
    have h := h b11 eb11
    refine j_getr E 11 2 rfl rfl (by decide) (by decide) (iw iT_11) rfl rfl (tw W_454) kv0 eb11 dX11_undo_14 ?_
    obtain ⟨b12, eb12, kb12⟩ := sh_o hZ kb11 (j := 4) (k := 4) rfl
    have h := h b12 eb12
    refine j_getrN E 8 4 rfl rfl (by decide) (by decide) (iw iT_8) rfl rfl (nw_8_4_X11_160) kb11 eb12 dX11_undo_17 ?_
    refine j_getiN E 4 4 rfl rfl (by decide) (by decide) (iw iT_4) rfl rfl (nw_4_4_X11_369) kb12 dX11_undo_20 ?_
    refine j_goto E 27 dX11_undo_23 (by decide) ?_
    exact j_ireturn E ⟨rfl, _, rfl, h⟩ (Nat.zero_le _) (Nat.zero_le _) dX11_undo_27
set_option maxRecDepth 100000 in
def f_X11_rail_b93 (K61 : Nat → Int32 → Int32 → jI → jL → Prop) (Z : jZ) (Q : Int32 → jI → jL → Prop) (v0 : Nat) (v3 : Int32) (s0 : Int32) (s1 : Int32) (I : jI) (L : jL) : Prop := (∀ x1 : Int32, x1 = (s0 + s1) → (∀ x2 : Int32, x2 = v3 + 1 → K61 v0 x1 x2 I L))
set_option maxHeartbeats 4000000 in
set_option maxRecDepth 100000 in
theorem m_X11_rail_b93 {G : jG} {Z : jZ} {Q : Int32 → jI → jL → Prop} (E : jE G cX11_rail RX11 w_X11_rail 4 (some .int) { frames := 4, cells := 0, slots := 0, locals := 87 } (rtI Z Q)) (hZ : SH Z) (K61 : Nat → Int32 → Int32 → jI → jL → Prop) (hK61 : ∀ (v0 : Nat) (v2 : Int32) (v3 : Int32) (I : jI) (L : jL), jk Z v0 11 → K61 v0 v2 v3 I L → jJ G 4 61 [(0, .ref v0), (2, .int v2), (3, .int v3)] [] Z I L 0 0) (v0 : Nat) (v3 : Int32) (s0 : Int32) (s1 : Int32) (I : jI) (L : jL) (kv0 : jk Z v0 11) (h : f_X11_rail_b93 K61 Z Q v0 v3 s0 s1 I L) : jJ G 4 93 [(0, .ref v0), (3, .int v3)] [.int s1, .int s0] Z I L 0 0 := by
  refine j_iadd E dX11_rail_93 ?_
  refine j_topi (fun x1 ex1 => ?_)
  have h := h x1 ex1
  refine j_istore_n E 2 [(2, .int x1), (0, .ref v0), (3, .int v3)] dX11_rail_94 rfl (by decide) rfl ?_
  obtain ⟨x2, ex2⟩ : ∃ y : Int32, y = v3 + 1 := ⟨_, rfl⟩
  have h := h x2 ex2
  refine j_iinc E x2 [(3, .int x2), (2, .int x1), (0, .ref v0)] dX11_rail_95 2 rfl (by rw [ex2]; rfl) (by decide) rfl ?_
  refine j_goto E 61 dX11_rail_98 (by decide) ?_
  refine j_sub [2, 1, 0] rfl ?_
  exact hK61 v0 x1 x2 I L kv0 h
set_option maxRecDepth 100000 in
def f_X11_rail_L61  (Z : jZ) (Q : Int32 → jI → jL → Prop) : Nat → Nat → Int32 → Int32 → jI → jL → Prop
  | 0 => fun _ _ _ _ _ => False
  | n + 1 => fun v0 v2 v3 I L => (((8 : Int32) ≤ v3 → Q v2 I L) ∧ (¬ ((8 : Int32) ≤ v3) → (∀ b4 : Nat, jr Z v0 6 = some b4 → (vp_in v3 8 ∧ (f_X11_tellMore v0 ((I b4 v3.toNatClampNeg).toInt64) Z I L (fun I8 L9 => (∀ b12 : Nat, jr Z v0 6 = some b12 → (vp_in v3 8 ∧ (((I8 b12 v3.toNatClampNeg) ≤ 0 → f_X11_rail_b93 (f_X11_rail_L61 Z Q n) Z Q v0 v3 v2 (0 : Int32) I8 L9) ∧ (¬ ((I8 b12 v3.toNatClampNeg) ≤ 0) → f_X11_rail_b93 (f_X11_rail_L61 Z Q n) Z Q v0 v3 v2 (1 : Int32) I8 L9))))))))))
set_option maxHeartbeats 4000000 in
set_option maxRecDepth 100000 in
theorem m_X11_rail_L61 {G : jG} {Z : jZ} {Q : Int32 → jI → jL → Prop} (E : jE G cX11_rail RX11 w_X11_rail 4 (some .int) { frames := 4, cells := 0, slots := 0, locals := 87 } (rtI Z Q)) (hZ : SH Z)  : ∀ (n : Nat) (v0 : Nat) (v2 : Int32) (v3 : Int32) (I : jI) (L : jL), jk Z v0 11 → f_X11_rail_L61  Z Q n v0 v2 v3 I L → jJ G 4 61 [(0, .ref v0), (2, .int v2), (3, .int v3)] [] Z I L 0 0 := by
  intro n
  induction n with
  | zero => intro v0 v2 v3 I L _ h; exact h.elim
  | succ n ih =>
    intro v0 v2 v3 I L kv0 h
    have h : (((8 : Int32) ≤ v3 → Q v2 I L) ∧ (¬ ((8 : Int32) ≤ v3) → (∀ b4 : Nat, jr Z v0 6 = some b4 → (vp_in v3 8 ∧ (f_X11_tellMore v0 ((I b4 v3.toNatClampNeg).toInt64) Z I L (fun I8 L9 => (∀ b12 : Nat, jr Z v0 6 = some b12 → (vp_in v3 8 ∧ (((I8 b12 v3.toNatClampNeg) ≤ 0 → f_X11_rail_b93 (f_X11_rail_L61 Z Q n) Z Q v0 v3 v2 (0 : Int32) I8 L9) ∧ (¬ ((I8 b12 v3.toNatClampNeg) ≤ 0) → f_X11_rail_b93 (f_X11_rail_L61 Z Q n) Z Q v0 v3 v2 (1 : Int32) I8 L9)))))))))) := h
    obtain ⟨K61, eK61⟩ : ∃ K : Nat → Int32 → Int32 → jI → jL → Prop, K = f_X11_rail_L61  Z Q n := ⟨_, rfl⟩
    have hK61 := ih
    clear eK61 K61
    generalize f_X11_rail_L61  Z Q n = K61 at hK61 h
    refine j_iload_n E dX11_rail_61 2 rfl ?_
    refine j_bipush E (v := 8) dX11_rail_62 (by decide) ?_
    refine j_icmp_ge E 101 dX11_rail_64 (by decide) (fun c3 => ?_) (fun c3 => ?_)
    · have h := h.1 c3
      refine j_iload_n E dX11_rail_101 1 rfl ?_
      exact j_ireturn E ⟨rfl, _, rfl, h⟩ (Nat.zero_le _) (Nat.zero_le _) dX11_rail_102
    · have h := h.2 c3
      refine j_aload_n E dX11_rail_67 0 rfl ?_
      refine j_aload_n E dX11_rail_68 0 rfl ?_
      obtain ⟨b4, eb4, kb4, lb4⟩ := sh_f hZ kv0 (j := 6) (k := 14) (m := 8) rfl
      have h := h b4 eb4
      refine j_getr E 11 6 rfl rfl (by decide) (by decide) (iw iT_11) rfl rfl (tw W_505) kv0 eb4 dX11_rail_69 ?_
      refine j_iload_n E dX11_rail_72 2 rfl ?_
      obtain ⟨o5, h⟩ := h
      refine j_iald E kb4 (by rw [lb4]; exact o5) dX11_rail_73 ?_
      refine j_i2l E dX11_rail_74 ?_
      refine j_callV E [.long ((I b4 v3.toNatClampNeg).toInt64)] [] (c_X11_tellMore (gL G) (gD G) (gY G) v0 ((I b4 v3.toNatClampNeg).toInt64) Z I L _ hZ kv0 h) (gwV W_488 W_489 W_490 W_40 W_487) rfl ⟨rfl, fy_X11_tellMore⟩ ⟨by decide, by decide⟩ (c := 11) rfl (by decide) kv0 rfl rfl (Nat.le_of_ble_eq_true rfl) ⟨Nat.zero_le _, Nat.zero_le _⟩ dX11_rail_75 (fun v6 Z7 I8 L9 q10 => ?_)
      obtain ⟨rfl, rfl, h⟩ := q10
      show jJ G 4 78 [(0, .ref v0), (2, .int v2), (3, .int v3)] [] Z I8 L9 0 0
      refine j_iload_n E dX11_rail_78 1 rfl ?_
      refine j_aload_n E dX11_rail_79 0 rfl ?_
      obtain ⟨b12, eb12, kb12, lb12⟩ := sh_f hZ kv0 (j := 6) (k := 14) (m := 8) rfl
      have h := h b12 eb12
      refine j_getr E 11 6 rfl rfl (by decide) (by decide) (iw iT_11) rfl rfl (tw W_505) kv0 eb12 dX11_rail_80 ?_
      refine j_iload_n E dX11_rail_83 2 rfl ?_
      obtain ⟨o13, h⟩ := h
      refine j_iald E kb12 (by rw [lb12]; exact o13) dX11_rail_84 ?_
      refine j_if_le E 92 dX11_rail_85 (by decide) (fun c14 => ?_) (fun c14 => ?_)
      · have h := h.1 c14
        refine j_iconst E (v := 0) dX11_rail_92 (by decide) ?_
        refine j_sub [0, 2] rfl ?_
        exact m_X11_rail_b93 E hZ K61 hK61 v0 v3 v2 (0 : Int32) I8 L9 kv0 h
      · have h := h.2 c14
        refine j_iconst E (v := 1) dX11_rail_88 (by decide) ?_
        refine j_goto E 93 dX11_rail_89 (by decide) ?_
        refine j_sub [0, 2] rfl ?_
        exact m_X11_rail_b93 E hZ K61 hK61 v0 v3 v2 (1 : Int32) I8 L9 kv0 h
set_option maxRecDepth 100000 in
def f_X11_rail (v0 : Nat) (v1 : Int32) (Z : jZ) (I : jI) (L : jL) (Q : Int32 → jI → jL → Prop) : Prop := ((v1 < 0 → Q (-1 : Int32) I L) ∧ (¬ (v1 < 0) → (((9999 : Int32) < v1 → Q (-1 : Int32) I L) ∧ (¬ ((9999 : Int32) < v1) → (∀ b17 : Nat, jr Z v0 2 = some b17 → ((¬ (I b17 9) = 0 → (∀ b19 : Nat, jr Z v0 2 = some b19 → (∀ b20 : Nat, jr Z b19 4 = some b20 → (∀ b21 : Nat, jr Z v0 6 = some b21 → (f_X4_sumInto b20 b21 Z I L (fun I24 L25 => (∀ b28 : Nat, jr Z v0 2 = some b28 → (f_X11_divide v0 v1 ((720 : Int32) * (I24 b28 9)) Z I24 L25 (fun I31 L32 => (f_X11_tellNothing v0 Z I31 L32 (fun I37 L38 => (∃ m61 : Nat, f_X11_rail_L61  Z Q m61 v0 (0 : Int32) (0 : Int32) I37 L38)))))))))))) ∧ ((I b17 9) = 0 → Q (-1 : Int32) I L)))))))
set_option maxHeartbeats 4000000 in
set_option maxRecDepth 100000 in
theorem c_X11_rail (l : Launch) (D : va_G) (cy : jC) (v0 : Nat) (v1 : Int32) (Z : jZ) (I : jI) (L : jL) (Q : Int32 → jI → jL → Prop) (hZ : SH Z) (kv0 : jk Z v0 11) (h : f_X11_rail v0 v1 Z I L Q) : jCt l yX11_rail w_X11_rail { frames := 4, cells := 0, slots := 0, locals := 87 } D cy [.ref v0, .int v1] Z I L (rtI Z Q) := by
  refine jCt_of (cc := cX11_rail) (maxL := 4) (ret := (some .int)) (by decide +kernel) rfl (Nat.le_of_ble_eq_true rfl) ?_
  intro G eD eY eL E
  subst eD; subst eY; subst eL
  have E : jE G cX11_rail RX11 w_X11_rail 4 (some .int) { frames := 4, cells := 0, slots := 0, locals := 87 } (rtI Z Q) := E
  show jJ G 4 0 [(0, .ref v0), (1, .int v1)] [] Z I L 0 0
  refine j_iload_n E dX11_rail_0 1 rfl ?_
  refine j_if_lt E 21 dX11_rail_1 (by decide) (fun c15 => ?_) (fun c15 => ?_)
  · have h := h.1 c15
    refine j_iconst E (v := -1) dX11_rail_21 (by decide) ?_
    exact j_ireturn E ⟨rfl, _, rfl, h⟩ (Nat.zero_le _) (Nat.zero_le _) dX11_rail_22
  · have h := h.2 c15
    refine j_iload_n E dX11_rail_4 1 rfl ?_
    refine j_sipush E (v := 9999) dX11_rail_5 (by decide) ?_
    refine j_icmp_gt E 21 dX11_rail_8 (by decide) (fun c16 => ?_) (fun c16 => ?_)
    · have h := h.1 c16
      refine j_iconst E (v := -1) dX11_rail_21 (by decide) ?_
      exact j_ireturn E ⟨rfl, _, rfl, h⟩ (Nat.zero_le _) (Nat.zero_le _) dX11_rail_22
    · have h := h.2 c16
      refine j_aload_n E dX11_rail_11 0 rfl ?_
      obtain ⟨b17, eb17, kb17⟩ := sh_o hZ kv0 (j := 2) (k := 8) rfl
      have h := h b17 eb17
      refine j_getr E 11 2 rfl rfl (by decide) (by decide) (iw iT_11) rfl rfl (tw W_454) kv0 eb17 dX11_rail_12 ?_
      refine j_getiN E 8 9 rfl rfl (by decide) (by decide) (iw iT_8) rfl rfl (nw_8_9_X11_172) kb17 dX11_rail_15 ?_
      refine j_if_ne E 23 dX11_rail_18 (by decide) (fun c18 => ?_) (fun c18 => ?_)
      · have h := h.1 c18
        refine j_aload_n E dX11_rail_23 0 rfl ?_
        obtain ⟨b19, eb19, kb19⟩ := sh_o hZ kv0 (j := 2) (k := 8) rfl
        have h := h b19 eb19
        refine j_getr E 11 2 rfl rfl (by decide) (by decide) (iw iT_11) rfl rfl (tw W_454) kv0 eb19 dX11_rail_24 ?_
        obtain ⟨b20, eb20, kb20⟩ := sh_o hZ kb19 (j := 4) (k := 4) rfl
        have h := h b20 eb20
        refine j_getrN E 8 4 rfl rfl (by decide) (by decide) (iw iT_8) rfl rfl (nw_8_4_X11_160) kb19 eb20 dX11_rail_27 ?_
        refine j_aload_n E dX11_rail_30 0 rfl ?_
        obtain ⟨b21, eb21, kb21, lb21⟩ := sh_f hZ kv0 (j := 6) (k := 14) (m := 8) rfl
        have h := h b21 eb21
        refine j_getr E 11 6 rfl rfl (by decide) (by decide) (iw iT_11) rfl rfl (tw W_505) kv0 eb21 dX11_rail_31 ?_
        refine j_callV E [.ref b21] [] (c_X4_sumInto (gL G) (gD G) (gY G) b20 b21 Z I L _ hZ kb20 kb21 h) (gwV W_631 W_632 W_633 W_160 W_630) rfl ⟨rfl, fy_X4_sumInto⟩ ⟨by decide, by decide⟩ (c := 4) rfl (by decide) kb20 rfl rfl (Nat.le_of_ble_eq_true rfl) ⟨Nat.zero_le _, Nat.zero_le _⟩ dX11_rail_34 (fun v22 Z23 I24 L25 q26 => ?_)
        obtain ⟨rfl, rfl, h⟩ := q26
        show jJ G 4 37 [(0, .ref v0), (1, .int v1)] [] Z I24 L25 0 0
        refine j_aload_n E dX11_rail_37 0 rfl ?_
        refine j_iload_n E dX11_rail_38 1 rfl ?_
        refine j_sipush E (v := 720) dX11_rail_39 (by decide) ?_
        refine j_aload_n E dX11_rail_42 0 rfl ?_
        obtain ⟨b28, eb28, kb28⟩ := sh_o hZ kv0 (j := 2) (k := 8) rfl
        have h := h b28 eb28
        refine j_getr E 11 2 rfl rfl (by decide) (by decide) (iw iT_11) rfl rfl (tw W_454) kv0 eb28 dX11_rail_43 ?_
        refine j_getiN E 8 9 rfl rfl (by decide) (by decide) (iw iT_8) rfl rfl (nw_8_9_X11_172) kb28 dX11_rail_46 ?_
        refine j_imul E dX11_rail_49 ?_
        refine j_callV E [.int v1, .int ((720 : Int32) * (I24 b28 9))] [] (c_X11_divide (gL G) (gD G) (gY G) v0 v1 ((720 : Int32) * (I24 b28 9)) Z I24 L25 _ hZ kv0 h) (gwV W_512 W_513 W_514 W_40 W_511) rfl ⟨rfl, fy_X11_divide⟩ ⟨by decide, by decide⟩ (c := 11) rfl (by decide) kv0 rfl rfl (Nat.le_of_ble_eq_true rfl) ⟨Nat.zero_le _, Nat.zero_le _⟩ dX11_rail_50 (fun v29 Z30 I31 L32 q33 => ?_)
        obtain ⟨rfl, rfl, h⟩ := q33
        show jJ G 4 53 [(0, .ref v0), (1, .int v1)] [] Z I31 L32 0 0
        refine j_iconst E (v := 0) dX11_rail_53 (by decide) ?_
        refine j_istore_n E 2 [(2, .int (0 : Int32)), (0, .ref v0), (1, .int v1)] dX11_rail_54 rfl (by decide) rfl ?_
        refine j_aload_n E dX11_rail_55 1 rfl ?_
        refine j_callV E [] [] (c_X11_tellNothing (gL G) (gD G) (gY G) v0 Z I31 L32 _ hZ kv0 h) (gwV W_484 W_485 W_486 W_40 W_483) rfl ⟨rfl, fy_X11_tellNothing⟩ ⟨by decide, by decide⟩ (c := 11) rfl (by decide) kv0 rfl rfl (Nat.le_of_ble_eq_true rfl) ⟨Nat.zero_le _, Nat.zero_le _⟩ dX11_rail_56 (fun v35 Z36 I37 L38 q39 => ?_)
        obtain ⟨rfl, rfl, h⟩ := q39
        show jJ G 4 59 [(2, .int (0 : Int32)), (0, .ref v0), (1, .int v1)] [] Z I37 L38 0 0
        refine j_iconst E (v := 0) dX11_rail_59 (by decide) ?_
        refine j_istore_n E 3 [(3, .int (0 : Int32)), (2, .int (0 : Int32)), (0, .ref v0), (1, .int v1)] dX11_rail_60 rfl (by decide) rfl ?_
        obtain ⟨n41, h⟩ := h
        refine j_sub [2, 1, 0] rfl ?_
        exact m_X11_rail_L61 E hZ  n41 v0 (0 : Int32) (0 : Int32) I37 L38 kv0 h
      · have h := h.2 c18
        refine j_iconst E (v := -1) dX11_rail_21 (by decide) ?_
        exact j_ireturn E ⟨rfl, _, rfl, h⟩ (Nat.zero_le _) (Nat.zero_le _) dX11_rail_22
set_option maxRecDepth 100000 in
def f_X11_fewestOver_b72 (K6 : Nat → Int32 → Int32 → Int32 → jI → jL → Prop) (Z : jZ) (Q : Int32 → jI → jL → Prop) (v0 : Nat) (v1 : Int32) (v2 : Int32) (v3 : Int32) (I : jI) (L : jL) : Prop := (∀ x1 : Int32, x1 = v3 + 1 → K6 v0 v1 v2 x1 I L)
set_option maxHeartbeats 4000000 in
set_option maxRecDepth 100000 in
theorem m_X11_fewestOver_b72 {G : jG} {Z : jZ} {Q : Int32 → jI → jL → Prop} (E : jE G cX11_fewestOver RX11 w_X11_fewestOver 6 (some .int) { frames := 1, cells := 0, slots := 0, locals := 20 } (rtI Z Q)) (hZ : SH Z) (K6 : Nat → Int32 → Int32 → Int32 → jI → jL → Prop) (hK6 : ∀ (v0 : Nat) (v1 : Int32) (v2 : Int32) (v3 : Int32) (I : jI) (L : jL), jk Z v0 11 → K6 v0 v1 v2 v3 I L → jJ G 6 6 [(0, .ref v0), (1, .int v1), (2, .int v2), (3, .int v3)] [] Z I L 0 0) (v0 : Nat) (v1 : Int32) (v2 : Int32) (v3 : Int32) (I : jI) (L : jL) (kv0 : jk Z v0 11) (h : f_X11_fewestOver_b72 K6 Z Q v0 v1 v2 v3 I L) : jJ G 6 72 [(0, .ref v0), (1, .int v1), (2, .int v2), (3, .int v3)] [] Z I L 0 0 := by
  obtain ⟨x1, ex1⟩ : ∃ y : Int32, y = v3 + 1 := ⟨_, rfl⟩
  have h := h x1 ex1
  refine j_iinc E x1 [(3, .int x1), (0, .ref v0), (1, .int v1), (2, .int v2)] dX11_fewestOver_72 3 rfl (by rw [ex1]; rfl) (by decide) rfl ?_
  refine j_goto E 6 dX11_fewestOver_75 (by decide) ?_
  refine j_sub [1, 2, 3, 0] rfl ?_
  exact hK6 v0 v1 v2 x1 I L kv0 h
set_option maxRecDepth 100000 in
def f_X11_fewestOver_L19 (K6 : Nat → Int32 → Int32 → Int32 → jI → jL → Prop) (Z : jZ) (Q : Int32 → jI → jL → Prop) : Nat → Nat → Int32 → Int32 → Int32 → Int32 → Int32 → jI → jL → Prop
  | 0 => fun _ _ _ _ _ _ _ _ => False
  | n + 1 => fun v0 v1 v2 v3 v4 v5 I L => (((8 : Int32) ≤ v5 → ((((2 : Int32) * v4) ≤ v1 → f_X11_fewestOver_b72 K6 Z Q v0 v1 v2 v3 I L) ∧ (¬ (((2 : Int32) * v4) ≤ v1) → (f_J6_bitCount_0f7a4 v3 Z I L (fun r10 I6 L7 => (f_J6_bitCount_0f7a4 v2 Z I6 L7 (fun r17 I13 L14 => ((r17 ≤ r10 → f_X11_fewestOver_b72 K6 Z Q v0 v1 v2 v3 I13 L14) ∧ (¬ (r17 ≤ r10) → f_X11_fewestOver_b72 K6 Z Q v0 v1 v3 v3 I13 L14))))))))) ∧ (¬ ((8 : Int32) ≤ v5) → (∀ b19 : Nat, jr Z v0 6 = some b19 → (vp_in v5 8 ∧ (∀ x21 : Int32, x21 = (v4 + (((v3 >>> (v5 &&& 31)) &&& (1 : Int32)) * (I b19 v5.toNatClampNeg))) → (∀ x22 : Int32, x22 = v5 + 1 → (f_X11_fewestOver_L19 K6 Z Q n) v0 v1 v2 v3 x21 x22 I L))))))
set_option maxHeartbeats 4000000 in
set_option maxRecDepth 100000 in
theorem m_X11_fewestOver_L19 {G : jG} {Z : jZ} {Q : Int32 → jI → jL → Prop} (E : jE G cX11_fewestOver RX11 w_X11_fewestOver 6 (some .int) { frames := 1, cells := 0, slots := 0, locals := 20 } (rtI Z Q)) (hZ : SH Z) (K6 : Nat → Int32 → Int32 → Int32 → jI → jL → Prop) (hK6 : ∀ (v0 : Nat) (v1 : Int32) (v2 : Int32) (v3 : Int32) (I : jI) (L : jL), jk Z v0 11 → K6 v0 v1 v2 v3 I L → jJ G 6 6 [(0, .ref v0), (1, .int v1), (2, .int v2), (3, .int v3)] [] Z I L 0 0) : ∀ (n : Nat) (v0 : Nat) (v1 : Int32) (v2 : Int32) (v3 : Int32) (v4 : Int32) (v5 : Int32) (I : jI) (L : jL), jk Z v0 11 → f_X11_fewestOver_L19 K6 Z Q n v0 v1 v2 v3 v4 v5 I L → jJ G 6 19 [(0, .ref v0), (1, .int v1), (2, .int v2), (3, .int v3), (4, .int v4), (5, .int v5)] [] Z I L 0 0 := by
  intro n
  induction n with
  | zero => intro v0 v1 v2 v3 v4 v5 I L _ h; exact h.elim
  | succ n ih =>
    intro v0 v1 v2 v3 v4 v5 I L kv0 h
    have h : (((8 : Int32) ≤ v5 → ((((2 : Int32) * v4) ≤ v1 → f_X11_fewestOver_b72 K6 Z Q v0 v1 v2 v3 I L) ∧ (¬ (((2 : Int32) * v4) ≤ v1) → (f_J6_bitCount_0f7a4 v3 Z I L (fun r10 I6 L7 => (f_J6_bitCount_0f7a4 v2 Z I6 L7 (fun r17 I13 L14 => ((r17 ≤ r10 → f_X11_fewestOver_b72 K6 Z Q v0 v1 v2 v3 I13 L14) ∧ (¬ (r17 ≤ r10) → f_X11_fewestOver_b72 K6 Z Q v0 v1 v3 v3 I13 L14))))))))) ∧ (¬ ((8 : Int32) ≤ v5) → (∀ b19 : Nat, jr Z v0 6 = some b19 → (vp_in v5 8 ∧ (∀ x21 : Int32, x21 = (v4 + (((v3 >>> (v5 &&& 31)) &&& (1 : Int32)) * (I b19 v5.toNatClampNeg))) → (∀ x22 : Int32, x22 = v5 + 1 → (f_X11_fewestOver_L19 K6 Z Q n) v0 v1 v2 v3 x21 x22 I L)))))) := h
    obtain ⟨K19, eK19⟩ : ∃ K : Nat → Int32 → Int32 → Int32 → Int32 → Int32 → jI → jL → Prop, K = f_X11_fewestOver_L19 K6 Z Q n := ⟨_, rfl⟩
    have hK19 := ih
    clear eK19 K19
    generalize f_X11_fewestOver_L19 K6 Z Q n = K19 at hK19 h
    refine j_iload E dX11_fewestOver_19 5 rfl ?_
    refine j_bipush E (v := 8) dX11_fewestOver_21 (by decide) ?_
    refine j_icmp_ge E 51 dX11_fewestOver_23 (by decide) (fun c2 => ?_) (fun c2 => ?_)
    · have h := h.1 c2
      refine j_iconst E (v := 2) dX11_fewestOver_51 (by decide) ?_
      refine j_iload E dX11_fewestOver_52 4 rfl ?_
      refine j_imul E dX11_fewestOver_54 ?_
      refine j_iload_n E dX11_fewestOver_55 1 rfl ?_
      refine j_icmp_le E 72 dX11_fewestOver_56 (by decide) (fun c3 => ?_) (fun c3 => ?_)
      · have h := h.1 c3
        refine j_sub [0, 1, 2, 3] rfl ?_
        exact m_X11_fewestOver_b72 E hZ K6 hK6 v0 v1 v2 v3 I L kv0 h
      · have h := h.2 c3
        refine j_iload_n E dX11_fewestOver_59 3 rfl ?_
        refine j_callS E [.int v3] [] (c_J6_bitCount_0f7a4 (gL G) (gD G) (gY G) v3 Z I L _ hZ  h) (gwS W_634 W_242 W_240 W_239) rfl fy_J6_bitCount_0f7a4 ⟨by decide, by decide⟩ rfl rfl (Nat.le_of_ble_eq_true rfl) ⟨Nat.zero_le _, Nat.zero_le _⟩ dX11_fewestOver_60 (fun v4 Z5 I6 L7 q8 => ?_)
        obtain ⟨rfl, r10, rfl, h⟩ := q8
        show jJ G 6 63 [(0, .ref v0), (1, .int v1), (2, .int v2), (3, .int v3), (4, .int v4), (5, .int v5)] [.int r10] Z I6 L7 0 0
        refine j_iload_n E dX11_fewestOver_63 2 rfl ?_
        refine j_callS E [.int v2] [.int r10] (c_J6_bitCount_0f7a4 (gL G) (gD G) (gY G) v2 Z I6 L7 _ hZ  h) (gwS W_634 W_242 W_240 W_239) rfl fy_J6_bitCount_0f7a4 ⟨by decide, by decide⟩ rfl rfl (Nat.le_of_ble_eq_true rfl) ⟨Nat.zero_le _, Nat.zero_le _⟩ dX11_fewestOver_64 (fun v11 Z12 I13 L14 q15 => ?_)
        obtain ⟨rfl, r17, rfl, h⟩ := q15
        show jJ G 6 67 [(0, .ref v0), (1, .int v1), (2, .int v2), (3, .int v3), (4, .int v4), (5, .int v5)] [.int r17, .int r10] Z I13 L14 0 0
        refine j_icmp_ge E 72 dX11_fewestOver_67 (by decide) (fun c18 => ?_) (fun c18 => ?_)
        · have h := h.1 c18
          refine j_sub [0, 1, 2, 3] rfl ?_
          exact m_X11_fewestOver_b72 E hZ K6 hK6 v0 v1 v2 v3 I13 L14 kv0 h
        · have h := h.2 c18
          refine j_iload_n E dX11_fewestOver_70 3 rfl ?_
          refine j_istore_n E 2 [(2, .int v3), (0, .ref v0), (1, .int v1), (3, .int v3), (4, .int v4), (5, .int v5)] dX11_fewestOver_71 rfl (by decide) rfl ?_
          refine j_sub [1, 2, 0, 3] rfl ?_
          exact m_X11_fewestOver_b72 E hZ K6 hK6 v0 v1 v3 v3 I13 L14 kv0 h
    · have h := h.2 c2
      refine j_iload E dX11_fewestOver_26 4 rfl ?_
      refine j_iload_n E dX11_fewestOver_28 3 rfl ?_
      refine j_iload E dX11_fewestOver_29 5 rfl ?_
      refine j_ishr E dX11_fewestOver_31 ?_
      refine j_iconst E (v := 1) dX11_fewestOver_32 (by decide) ?_
      refine j_iand E dX11_fewestOver_33 ?_
      refine j_aload_n E dX11_fewestOver_34 0 rfl ?_
      obtain ⟨b19, eb19, kb19, lb19⟩ := sh_f hZ kv0 (j := 6) (k := 14) (m := 8) rfl
      have h := h b19 eb19
      refine j_getr E 11 6 rfl rfl (by decide) (by decide) (iw iT_11) rfl rfl (tw W_505) kv0 eb19 dX11_fewestOver_35 ?_
      refine j_iload E dX11_fewestOver_38 5 rfl ?_
      obtain ⟨o20, h⟩ := h
      refine j_iald E kb19 (by rw [lb19]; exact o20) dX11_fewestOver_40 ?_
      refine j_imul E dX11_fewestOver_41 ?_
      refine j_iadd E dX11_fewestOver_42 ?_
      refine j_topi (fun x21 ex21 => ?_)
      have h := h x21 ex21
      refine j_istore E 4 [(4, .int x21), (0, .ref v0), (1, .int v1), (2, .int v2), (3, .int v3), (5, .int v5)] dX11_fewestOver_43 (by decide) rfl ?_
      obtain ⟨x22, ex22⟩ : ∃ y : Int32, y = v5 + 1 := ⟨_, rfl⟩
      have h := h x22 ex22
      refine j_iinc E x22 [(5, .int x22), (4, .int x21), (0, .ref v0), (1, .int v1), (2, .int v2), (3, .int v3)] dX11_fewestOver_45 5 rfl (by rw [ex22]; rfl) (by decide) rfl ?_
      refine j_goto E 19 dX11_fewestOver_48 (by decide) ?_
      refine j_sub [2, 3, 4, 5, 1, 0] rfl ?_
      exact hK19 v0 v1 v2 v3 x21 x22 I L kv0 h
set_option maxRecDepth 100000 in
def f_X11_fewestOver_L6  (Z : jZ) (Q : Int32 → jI → jL → Prop) : Nat → Nat → Int32 → Int32 → Int32 → jI → jL → Prop
  | 0 => fun _ _ _ _ _ _ => False
  | n + 1 => fun v0 v1 v2 v3 I L => (((255 : Int32) ≤ v3 → Q v2 I L) ∧ (¬ ((255 : Int32) ≤ v3) → (∃ m19 : Nat, f_X11_fewestOver_L19 (f_X11_fewestOver_L6 Z Q n) Z Q m19 v0 v1 v2 v3 (0 : Int32) (0 : Int32) I L)))
set_option maxHeartbeats 4000000 in
set_option maxRecDepth 100000 in
theorem m_X11_fewestOver_L6 {G : jG} {Z : jZ} {Q : Int32 → jI → jL → Prop} (E : jE G cX11_fewestOver RX11 w_X11_fewestOver 6 (some .int) { frames := 1, cells := 0, slots := 0, locals := 20 } (rtI Z Q)) (hZ : SH Z)  : ∀ (n : Nat) (v0 : Nat) (v1 : Int32) (v2 : Int32) (v3 : Int32) (I : jI) (L : jL), jk Z v0 11 → f_X11_fewestOver_L6  Z Q n v0 v1 v2 v3 I L → jJ G 6 6 [(0, .ref v0), (1, .int v1), (2, .int v2), (3, .int v3)] [] Z I L 0 0 := by
  intro n
  induction n with
  | zero => intro v0 v1 v2 v3 I L _ h; exact h.elim
  | succ n ih =>
    intro v0 v1 v2 v3 I L kv0 h
    have h : (((255 : Int32) ≤ v3 → Q v2 I L) ∧ (¬ ((255 : Int32) ≤ v3) → (∃ m19 : Nat, f_X11_fewestOver_L19 (f_X11_fewestOver_L6 Z Q n) Z Q m19 v0 v1 v2 v3 (0 : Int32) (0 : Int32) I L))) := h
    obtain ⟨K6, eK6⟩ : ∃ K : Nat → Int32 → Int32 → Int32 → jI → jL → Prop, K = f_X11_fewestOver_L6  Z Q n := ⟨_, rfl⟩
    have hK6 := ih
    clear eK6 K6
    generalize f_X11_fewestOver_L6  Z Q n = K6 at hK6 h
    refine j_iload_n E dX11_fewestOver_6 3 rfl ?_
    refine j_sipush E (v := 255) dX11_fewestOver_7 (by decide) ?_
    refine j_icmp_ge E 78 dX11_fewestOver_10 (by decide) (fun c23 => ?_) (fun c23 => ?_)
    · have h := h.1 c23
      refine j_iload_n E dX11_fewestOver_78 2 rfl ?_
      exact j_ireturn E ⟨rfl, _, rfl, h⟩ (Nat.zero_le _) (Nat.zero_le _) dX11_fewestOver_79
    · have h := h.2 c23
      refine j_iconst E (v := 0) dX11_fewestOver_13 (by decide) ?_
      refine j_istore E 4 [(4, .int (0 : Int32)), (0, .ref v0), (1, .int v1), (2, .int v2), (3, .int v3)] dX11_fewestOver_14 (by decide) rfl ?_
      refine j_iconst E (v := 0) dX11_fewestOver_16 (by decide) ?_
      refine j_istore E 5 [(5, .int (0 : Int32)), (4, .int (0 : Int32)), (0, .ref v0), (1, .int v1), (2, .int v2), (3, .int v3)] dX11_fewestOver_17 (by decide) rfl ?_
      obtain ⟨n24, h⟩ := h
      refine j_sub [2, 3, 4, 5, 1, 0] rfl ?_
      exact m_X11_fewestOver_L19 E hZ K6 hK6 n24 v0 v1 v2 v3 (0 : Int32) (0 : Int32) I L kv0 h
set_option maxRecDepth 100000 in
def f_X11_fewestOver (v0 : Nat) (v1 : Int32) (Z : jZ) (I : jI) (L : jL) (Q : Int32 → jI → jL → Prop) : Prop := (∃ m6 : Nat, f_X11_fewestOver_L6  Z Q m6 v0 v1 (255 : Int32) (1 : Int32) I L)
set_option maxHeartbeats 4000000 in
set_option maxRecDepth 100000 in
theorem c_X11_fewestOver (l : Launch) (D : va_G) (cy : jC) (v0 : Nat) (v1 : Int32) (Z : jZ) (I : jI) (L : jL) (Q : Int32 → jI → jL → Prop) (hZ : SH Z) (kv0 : jk Z v0 11) (h : f_X11_fewestOver v0 v1 Z I L Q) : jCt l yX11_fewestOver w_X11_fewestOver { frames := 1, cells := 0, slots := 0, locals := 20 } D cy [.ref v0, .int v1] Z I L (rtI Z Q) := by
  refine jCt_of (cc := cX11_fewestOver) (maxL := 6) (ret := (some .int)) (by decide +kernel) rfl (Nat.le_of_ble_eq_true rfl) ?_
  intro G eD eY eL E
  subst eD; subst eY; subst eL
  have E : jE G cX11_fewestOver RX11 w_X11_fewestOver 6 (some .int) { frames := 1, cells := 0, slots := 0, locals := 20 } (rtI Z Q) := E
  show jJ G 6 0 [(0, .ref v0), (1, .int v1)] [] Z I L 0 0
  refine j_sipush E (v := 255) dX11_fewestOver_0 (by decide) ?_
  refine j_istore_n E 2 [(2, .int (255 : Int32)), (0, .ref v0), (1, .int v1)] dX11_fewestOver_3 rfl (by decide) rfl ?_
  refine j_iconst E (v := 1) dX11_fewestOver_4 (by decide) ?_
  refine j_istore_n E 3 [(3, .int (1 : Int32)), (2, .int (255 : Int32)), (0, .ref v0), (1, .int v1)] dX11_fewestOver_5 rfl (by decide) rfl ?_
  obtain ⟨n25, h⟩ := h
  refine j_sub [2, 3, 1, 0] rfl ?_
  exact m_X11_fewestOver_L6 E hZ  n25 v0 v1 (255 : Int32) (1 : Int32) I L kv0 h
set_option maxRecDepth 100000 in
def f_X11_rules_b90  (Z : jZ) (Q : Int32 → jI → jL → Prop) (v0 : Nat) (s0 : Nat) (s1 : Int32) (I : jI) (L : jL) : Prop := (f_X11_fewestOver s0 s1 Z I L (fun r7 I3 L4 => (f_X11_tellOne v0 (r7.toInt64) Z I3 L4 (fun I10 L11 => (f_J6_bitCount_0f7a4 r7 Z I10 L11 (fun r20 I16 L17 => Q r20 I16 L17))))))
set_option maxHeartbeats 4000000 in
set_option maxRecDepth 100000 in
theorem m_X11_rules_b90 {G : jG} {Z : jZ} {Q : Int32 → jI → jL → Prop} (E : jE G cX11_rules RX11 w_X11_rules 4 (some .int) { frames := 3, cells := 0, slots := 0, locals := 65 } (rtI Z Q)) (hZ : SH Z)  (v0 : Nat) (s0 : Nat) (s1 : Int32) (I : jI) (L : jL) (kv0 : jk Z v0 11) (ks0 : jk Z s0 11) (h : f_X11_rules_b90  Z Q v0 s0 s1 I L) : jJ G 4 90 [(0, .ref v0)] [.int s1, .ref s0] Z I L 0 0 := by
  refine j_callV E [.int s1] [] (c_X11_fewestOver (gL G) (gD G) (gY G) s0 s1 Z I L _ hZ ks0 h) (gwV W_636 W_637 W_638 W_40 W_635) rfl ⟨rfl, fy_X11_fewestOver⟩ ⟨by decide, by decide⟩ (c := 11) rfl (by decide) ks0 rfl rfl (Nat.le_of_ble_eq_true rfl) ⟨Nat.zero_le _, Nat.zero_le _⟩ dX11_rules_90 (fun v1 Z2 I3 L4 q5 => ?_)
  obtain ⟨rfl, r7, rfl, h⟩ := q5
  show jJ G 4 93 [(0, .ref v0)] [.int r7] Z I3 L4 0 0
  refine j_istore_n E 3 [(3, .int r7), (0, .ref v0)] dX11_rules_93 rfl (by decide) rfl ?_
  refine j_aload_n E dX11_rules_94 1 rfl ?_
  refine j_iload_n E dX11_rules_95 0 rfl ?_
  refine j_i2l E dX11_rules_96 ?_
  refine j_callV E [.long (r7.toInt64)] [] (c_X11_tellOne (gL G) (gD G) (gY G) v0 (r7.toInt64) Z I3 L4 _ hZ kv0 h) (gwV W_492 W_493 W_494 W_40 W_491) rfl ⟨rfl, fy_X11_tellOne⟩ ⟨by decide, by decide⟩ (c := 11) rfl (by decide) kv0 rfl rfl (Nat.le_of_ble_eq_true rfl) ⟨Nat.zero_le _, Nat.zero_le _⟩ dX11_rules_97 (fun v8 Z9 I10 L11 q12 => ?_)
  obtain ⟨rfl, rfl, h⟩ := q12
  show jJ G 4 100 [(3, .int r7), (0, .ref v0)] [] Z I10 L11 0 0
  refine j_iload_n E dX11_rules_100 0 rfl ?_
  refine j_callS E [.int r7] [] (c_J6_bitCount_0f7a4 (gL G) (gD G) (gY G) r7 Z I10 L11 _ hZ  h) (gwS W_634 W_242 W_240 W_239) rfl fy_J6_bitCount_0f7a4 ⟨by decide, by decide⟩ rfl rfl (Nat.le_of_ble_eq_true rfl) ⟨Nat.zero_le _, Nat.zero_le _⟩ dX11_rules_101 (fun v14 Z15 I16 L17 q18 => ?_)
  obtain ⟨rfl, r20, rfl, h⟩ := q18
  show jJ G 4 104 [(3, .int r7), (0, .ref v0)] [.int r20] Z I16 L17 0 0
  exact j_ireturn E ⟨rfl, _, rfl, h⟩ (Nat.zero_le _) (Nat.zero_le _) dX11_rules_104
set_option maxRecDepth 100000 in
def f_X11_rules_b72  (Z : jZ) (Q : Int32 → jI → jL → Prop) (v0 : Nat) (v1 : Int32) (I : jI) (L : jL) : Prop := ((¬ v1 = 0 → (∀ b22 : Nat, jr Z v0 2 = some b22 → f_X11_rules_b90  Z Q v0 v0 (I b22 9) I L)) ∧ (v1 = 0 → f_X11_rules_b90  Z Q v0 v0 (720 : Int32) I L))
set_option maxHeartbeats 4000000 in
set_option maxRecDepth 100000 in
theorem m_X11_rules_b72 {G : jG} {Z : jZ} {Q : Int32 → jI → jL → Prop} (E : jE G cX11_rules RX11 w_X11_rules 4 (some .int) { frames := 3, cells := 0, slots := 0, locals := 65 } (rtI Z Q)) (hZ : SH Z)  (v0 : Nat) (v1 : Int32) (I : jI) (L : jL) (kv0 : jk Z v0 11) (h : f_X11_rules_b72  Z Q v0 v1 I L) : jJ G 4 72 [(0, .ref v0), (1, .int v1)] [] Z I L 0 0 := by
  refine j_aload_n E dX11_rules_72 0 rfl ?_
  refine j_iload_n E dX11_rules_73 1 rfl ?_
  refine j_if_ne E 83 dX11_rules_74 (by decide) (fun c21 => ?_) (fun c21 => ?_)
  · have h := h.1 c21
    refine j_aload_n E dX11_rules_83 0 rfl ?_
    obtain ⟨b22, eb22, kb22⟩ := sh_o hZ kv0 (j := 2) (k := 8) rfl
    have h := h b22 eb22
    refine j_getr E 11 2 rfl rfl (by decide) (by decide) (iw iT_11) rfl rfl (tw W_454) kv0 eb22 dX11_rules_84 ?_
    refine j_getiN E 8 9 rfl rfl (by decide) (by decide) (iw iT_8) rfl rfl (nw_8_9_X11_172) kb22 dX11_rules_87 ?_
    refine j_sub [0] rfl ?_
    exact m_X11_rules_b90 E hZ  v0 v0 (I b22 9) I L kv0 kv0 h
  · have h := h.2 c21
    refine j_sipush E (v := 720) dX11_rules_77 (by decide) ?_
    refine j_goto E 90 dX11_rules_80 (by decide) ?_
    refine j_sub [0] rfl ?_
    exact m_X11_rules_b90 E hZ  v0 v0 (720 : Int32) I L kv0 kv0 h
set_option maxRecDepth 100000 in
def f_X11_rules_b36  (Z : jZ) (Q : Int32 → jI → jL → Prop) (v0 : Nat) (v1 : Int32) (v2 : Int32) (I : jI) (L : jL) : Prop := ((¬ v1 = 0 → (∀ b24 : Nat, jr Z v0 2 = some b24 → (∀ b25 : Nat, jr Z b24 4 = some b25 → (∀ b26 : Nat, jr Z v0 6 = some b26 → (f_X4_mainsInto b25 b26 Z I L (fun I29 L30 => f_X11_rules_b72  Z Q v0 v1 I29 L30)))))) ∧ (v1 = 0 → (∀ b33 : Nat, jr Z v0 2 = some b33 → (∀ b34 : Nat, jr Z b33 4 = some b34 → (∀ b35 : Nat, jr Z v0 6 = some b35 → (f_X4_shareInto b34 v2 b35 Z I L (fun I38 L39 => f_X11_rules_b72  Z Q v0 v1 I38 L39)))))))
set_option maxHeartbeats 4000000 in
set_option maxRecDepth 100000 in
theorem m_X11_rules_b36 {G : jG} {Z : jZ} {Q : Int32 → jI → jL → Prop} (E : jE G cX11_rules RX11 w_X11_rules 4 (some .int) { frames := 3, cells := 0, slots := 0, locals := 65 } (rtI Z Q)) (hZ : SH Z)  (v0 : Nat) (v1 : Int32) (v2 : Int32) (I : jI) (L : jL) (kv0 : jk Z v0 11) (h : f_X11_rules_b36  Z Q v0 v1 v2 I L) : jJ G 4 36 [(0, .ref v0), (1, .int v1), (2, .int v2)] [] Z I L 0 0 := by
  refine j_iload_n E dX11_rules_36 1 rfl ?_
  refine j_if_ne E 58 dX11_rules_37 (by decide) (fun c23 => ?_) (fun c23 => ?_)
  · have h := h.1 c23
    refine j_aload_n E dX11_rules_58 0 rfl ?_
    obtain ⟨b24, eb24, kb24⟩ := sh_o hZ kv0 (j := 2) (k := 8) rfl
    have h := h b24 eb24
    refine j_getr E 11 2 rfl rfl (by decide) (by decide) (iw iT_11) rfl rfl (tw W_454) kv0 eb24 dX11_rules_59 ?_
    obtain ⟨b25, eb25, kb25⟩ := sh_o hZ kb24 (j := 4) (k := 4) rfl
    have h := h b25 eb25
    refine j_getrN E 8 4 rfl rfl (by decide) (by decide) (iw iT_8) rfl rfl (nw_8_4_X11_160) kb24 eb25 dX11_rules_62 ?_
    refine j_aload_n E dX11_rules_65 0 rfl ?_
    obtain ⟨b26, eb26, kb26, lb26⟩ := sh_f hZ kv0 (j := 6) (k := 14) (m := 8) rfl
    have h := h b26 eb26
    refine j_getr E 11 6 rfl rfl (by decide) (by decide) (iw iT_11) rfl rfl (tw W_505) kv0 eb26 dX11_rules_66 ?_
    refine j_callV E [.ref b26] [] (c_X4_mainsInto (gL G) (gD G) (gY G) b25 b26 Z I L _ hZ kb25 kb26 h) (gwV W_640 W_641 W_642 W_160 W_639) rfl ⟨rfl, fy_X4_mainsInto⟩ ⟨by decide, by decide⟩ (c := 4) rfl (by decide) kb25 rfl rfl (Nat.le_of_ble_eq_true rfl) ⟨Nat.zero_le _, Nat.zero_le _⟩ dX11_rules_69 (fun v27 Z28 I29 L30 q31 => ?_)
    obtain ⟨rfl, rfl, h⟩ := q31
    show jJ G 4 72 [(0, .ref v0), (1, .int v1), (2, .int v2)] [] Z I29 L30 0 0
    refine j_sub [0, 1] rfl ?_
    exact m_X11_rules_b72 E hZ  v0 v1 I29 L30 kv0 h
  · have h := h.2 c23
    refine j_aload_n E dX11_rules_40 0 rfl ?_
    obtain ⟨b33, eb33, kb33⟩ := sh_o hZ kv0 (j := 2) (k := 8) rfl
    have h := h b33 eb33
    refine j_getr E 11 2 rfl rfl (by decide) (by decide) (iw iT_11) rfl rfl (tw W_454) kv0 eb33 dX11_rules_41 ?_
    obtain ⟨b34, eb34, kb34⟩ := sh_o hZ kb33 (j := 4) (k := 4) rfl
    have h := h b34 eb34
    refine j_getrN E 8 4 rfl rfl (by decide) (by decide) (iw iT_8) rfl rfl (nw_8_4_X11_160) kb33 eb34 dX11_rules_44 ?_
    refine j_iload_n E dX11_rules_47 2 rfl ?_
    refine j_aload_n E dX11_rules_48 0 rfl ?_
    obtain ⟨b35, eb35, kb35, lb35⟩ := sh_f hZ kv0 (j := 6) (k := 14) (m := 8) rfl
    have h := h b35 eb35
    refine j_getr E 11 6 rfl rfl (by decide) (by decide) (iw iT_11) rfl rfl (tw W_505) kv0 eb35 dX11_rules_49 ?_
    refine j_callV E [.int v2, .ref b35] [] (c_X4_shareInto (gL G) (gD G) (gY G) b34 v2 b35 Z I L _ hZ kb34 kb35 h) (gwV W_508 W_509 W_510 W_160 W_507) rfl ⟨rfl, fy_X4_shareInto⟩ ⟨by decide, by decide⟩ (c := 4) rfl (by decide) kb34 rfl rfl (Nat.le_of_ble_eq_true rfl) ⟨Nat.zero_le _, Nat.zero_le _⟩ dX11_rules_52 (fun v36 Z37 I38 L39 q40 => ?_)
    obtain ⟨rfl, rfl, h⟩ := q40
    show jJ G 4 55 [(0, .ref v0), (1, .int v1), (2, .int v2)] [] Z I38 L39 0 0
    refine j_goto E 72 dX11_rules_55 (by decide) ?_
    refine j_sub [0, 1] rfl ?_
    exact m_X11_rules_b72 E hZ  v0 v1 I38 L39 kv0 h
set_option maxRecDepth 100000 in
def f_X11_rules (v0 : Nat) (v1 : Int32) (v2 : Int32) (Z : jZ) (I : jI) (L : jL) (Q : Int32 → jI → jL → Prop) : Prop := ((v1 < 0 → Q (-1 : Int32) I L) ∧ (¬ (v1 < 0) → (((1 : Int32) < v1 → Q (-1 : Int32) I L) ∧ (¬ ((1 : Int32) < v1) → (∀ b44 : Nat, jr Z v0 2 = some b44 → (((I b44 9) = 0 → Q (-1 : Int32) I L) ∧ (¬ ((I b44 9) = 0) → ((¬ v1 = 0 → f_X11_rules_b36  Z Q v0 v1 v2 I L) ∧ (v1 = 0 → (∀ b47 : Nat, jr Z v0 2 = some b47 → (f_X8_has b47 v2 Z I L (fun r54 I50 L51 => ((¬ r54 = 0 → f_X11_rules_b36  Z Q v0 v1 v2 I50 L51) ∧ (r54 = 0 → Q (-1 : Int32) I50 L51))))))))))))))
set_option maxHeartbeats 4000000 in
set_option maxRecDepth 100000 in
theorem c_X11_rules (l : Launch) (D : va_G) (cy : jC) (v0 : Nat) (v1 : Int32) (v2 : Int32) (Z : jZ) (I : jI) (L : jL) (Q : Int32 → jI → jL → Prop) (hZ : SH Z) (kv0 : jk Z v0 11) (h : f_X11_rules v0 v1 v2 Z I L Q) : jCt l yX11_rules w_X11_rules { frames := 3, cells := 0, slots := 0, locals := 65 } D cy [.ref v0, .int v1, .int v2] Z I L (rtI Z Q) := by
  refine jCt_of (cc := cX11_rules) (maxL := 4) (ret := (some .int)) (by decide +kernel) rfl (Nat.le_of_ble_eq_true rfl) ?_
  intro G eD eY eL E
  subst eD; subst eY; subst eL
  have E : jE G cX11_rules RX11 w_X11_rules 4 (some .int) { frames := 3, cells := 0, slots := 0, locals := 65 } (rtI Z Q) := E
  show jJ G 4 0 [(0, .ref v0), (1, .int v1), (2, .int v2)] [] Z I L 0 0
  refine j_iload_n E dX11_rules_0 1 rfl ?_
  refine j_if_lt E 34 dX11_rules_1 (by decide) (fun c42 => ?_) (fun c42 => ?_)
  · have h := h.1 c42
    refine j_iconst E (v := -1) dX11_rules_34 (by decide) ?_
    exact j_ireturn E ⟨rfl, _, rfl, h⟩ (Nat.zero_le _) (Nat.zero_le _) dX11_rules_35
  · have h := h.2 c42
    refine j_iload_n E dX11_rules_4 1 rfl ?_
    refine j_iconst E (v := 1) dX11_rules_5 (by decide) ?_
    refine j_icmp_gt E 34 dX11_rules_6 (by decide) (fun c43 => ?_) (fun c43 => ?_)
    · have h := h.1 c43
      refine j_iconst E (v := -1) dX11_rules_34 (by decide) ?_
      exact j_ireturn E ⟨rfl, _, rfl, h⟩ (Nat.zero_le _) (Nat.zero_le _) dX11_rules_35
    · have h := h.2 c43
      refine j_aload_n E dX11_rules_9 0 rfl ?_
      obtain ⟨b44, eb44, kb44⟩ := sh_o hZ kv0 (j := 2) (k := 8) rfl
      have h := h b44 eb44
      refine j_getr E 11 2 rfl rfl (by decide) (by decide) (iw iT_11) rfl rfl (tw W_454) kv0 eb44 dX11_rules_10 ?_
      refine j_getiN E 8 9 rfl rfl (by decide) (by decide) (iw iT_8) rfl rfl (nw_8_9_X11_172) kb44 dX11_rules_13 ?_
      refine j_if_eq E 34 dX11_rules_16 (by decide) (fun c45 => ?_) (fun c45 => ?_)
      · have h := h.1 c45
        refine j_iconst E (v := -1) dX11_rules_34 (by decide) ?_
        exact j_ireturn E ⟨rfl, _, rfl, h⟩ (Nat.zero_le _) (Nat.zero_le _) dX11_rules_35
      · have h := h.2 c45
        refine j_iload_n E dX11_rules_19 1 rfl ?_
        refine j_if_ne E 36 dX11_rules_20 (by decide) (fun c46 => ?_) (fun c46 => ?_)
        · have h := h.1 c46
          refine j_sub [0, 1, 2] rfl ?_
          exact m_X11_rules_b36 E hZ  v0 v1 v2 I L kv0 h
        · have h := h.2 c46
          refine j_aload_n E dX11_rules_23 0 rfl ?_
          obtain ⟨b47, eb47, kb47⟩ := sh_o hZ kv0 (j := 2) (k := 8) rfl
          have h := h b47 eb47
          refine j_getr E 11 2 rfl rfl (by decide) (by decide) (iw iT_11) rfl rfl (tw W_454) kv0 eb47 dX11_rules_24 ?_
          refine j_iload_n E dX11_rules_27 2 rfl ?_
          refine j_callV E [.int v2] [] (c_X8_has (gL G) (gD G) (gY G) b47 v2 Z I L _ hZ kb47 h) (gwV W_463 W_256 W_257 W_254 W_253) rfl ⟨rfl, fy_X8_has⟩ ⟨by decide, by decide⟩ (c := 8) rfl (by decide) kb47 rfl rfl (Nat.le_of_ble_eq_true rfl) ⟨Nat.zero_le _, Nat.zero_le _⟩ dX11_rules_28 (fun v48 Z49 I50 L51 q52 => ?_)
          obtain ⟨rfl, r54, rfl, zr54, h⟩ := q52
          show jJ G 4 31 [(0, .ref v0), (1, .int v1), (2, .int v2)] [.int r54] Z I50 L51 0 0
          refine j_if_ne E 36 dX11_rules_31 (by decide) (fun c55 => ?_) (fun c55 => ?_)
          · have h := h.1 c55
            refine j_sub [0, 1, 2] rfl ?_
            exact m_X11_rules_b36 E hZ  v0 v1 v2 I50 L51 kv0 h
          · have h := h.2 c55
            refine j_iconst E (v := -1) dX11_rules_34 (by decide) ?_
            exact j_ireturn E ⟨rfl, _, rfl, h⟩ (Nat.zero_le _) (Nat.zero_le _) dX11_rules_35
set_option maxRecDepth 100000 in
def f_X11_hold_b81 (B : Nat × Nat) (K16 : Nat → Int32 → Int32 → jZ → jI → jL → Prop) (Q : jZ → jI → jL → Prop) (v0 : Nat) (v1 : Int32) (v2 : Int32) (Z : jZ) (I : jI) (L : jL) : Prop := (∀ x1 : Int32, x1 = v2 + 1 → K16 v0 v1 x1 Z I L)
set_option maxHeartbeats 4000000 in
set_option maxRecDepth 100000 in
theorem m_X11_hold_b81 {G : jG} {B : Nat × Nat} {Z0 : jZ} {Q : jZ → jI → jL → Prop} (E : jE G cX11_hold RX11 w_X11_hold 6 none (jrm B 7 183 Z0) jRF) (EU : jEU G B Z0 (urtV B Z0 Q)) (K16 : Nat → Int32 → Int32 → jZ → jI → jL → Prop) (hK16 : ∀ (v0 : Nat) (v1 : Int32) (v2 : Int32) (Z : jZ) (I : jI) (L : jL), SH Z → jext Z0 Z → jle Z0 Z → jin B Z → jk Z v0 11 → K16 v0 v1 v2 Z I L → jJ G 6 16 [(0, .ref v0), (1, .int v1), (2, .int v2)] [] Z I L (jcz Z - jcz Z0) (jsz Z - jsz Z0)) (v0 : Nat) (v1 : Int32) (v2 : Int32) (Z : jZ) (I : jI) (L : jL) (hZ : SH Z) (hx : jext Z0 Z) (hc : jle Z0 Z) (hb : jin B Z) (kv0 : jk Z v0 11) (h : f_X11_hold_b81 B K16 Q v0 v1 v2 Z I L) : jJ G 6 81 [(0, .ref v0), (1, .int v1), (2, .int v2)] [] Z I L (jcz Z - jcz Z0) (jsz Z - jsz Z0) := by
  obtain ⟨x1, ex1⟩ : ∃ y : Int32, y = v2 + 1 := ⟨_, rfl⟩
  have h := h x1 ex1
  refine j_iinc E x1 [(2, .int x1), (0, .ref v0), (1, .int v1)] dX11_hold_81 2 rfl (by rw [ex1]; rfl) (by decide) rfl ?_
  refine j_goto E 16 dX11_hold_84 (by decide) ?_
  refine j_sub [1, 2, 0] rfl ?_
  exact hK16 v0 v1 x1 Z I L hZ hx hc hb kv0 h
set_option maxRecDepth 100000 in
def f_X11_hold_L16 (B : Nat × Nat)  (Q : jZ → jI → jL → Prop) : Nat → Nat → Int32 → Int32 → jZ → jI → jL → Prop
  | 0 => fun _ _ _ _ _ _ => False
  | n + 1 => fun v0 v1 v2 Z I L => (((I v0 4) ≤ v2 → (∀ b3 : Nat, jr Z v0 10 = some b3 → (f_X1_run b3 v1 Z I L (fun I6 L7 => Q Z I6 L7)))) ∧ (¬ ((I v0 4) ≤ v2) → (f_X11_find v0 v2 Z I L (fun r16 I12 L13 => ((r16 = none → f_X11_hold_b81 B (f_X11_hold_L16 B Q n) Q v0 v1 v2 Z I12 L13) ∧ (∀ b17 : Nat, r16 = some b17 → (∀ b19 : Nat, jr Z b17 8 = some b19 → (f_X6_lay b19 (I12 b17 3) (I12 b17 4) (-1 : Int32) Z I12 L13 (fun I22 L23 => (∀ b26 : Nat, jr Z b17 8 = some b26 → (f_X6_cheapest B b26 Z I22 L23 (fun r33 Z28 I29 L30 => (((lg_cmp r33 (9223372036854775807 : Int64)) = 0 → f_X11_hold_b81 B (f_X11_hold_L16 B Q n) Q v0 v1 v2 Z28 I29 L30) ∧ (¬ ((lg_cmp r33 (9223372036854775807 : Int64)) = 0) → (∀ b37 : Nat, jr Z28 v0 10 = some b37 → (f_X1_invite b37 v2 r33 Z28 I29 L30 (fun I40 L41 => f_X11_hold_b81 B (f_X11_hold_L16 B Q n) Q v0 v1 v2 Z28 I40 L41)))))))))))))))))
set_option maxHeartbeats 4000000 in
set_option maxRecDepth 100000 in
theorem m_X11_hold_L16 {G : jG} {Z0 : jZ} {B : Nat × Nat} {Q : jZ → jI → jL → Prop} (E : jE G cX11_hold RX11 w_X11_hold 6 none (jrm B 7 183 Z0) jRF) (EU : jEU G B Z0 (urtV B Z0 Q))  : ∀ (n : Nat) (v0 : Nat) (v1 : Int32) (v2 : Int32) (Z : jZ) (I : jI) (L : jL), SH Z → jext Z0 Z → jle Z0 Z → jin B Z → jk Z v0 11 → f_X11_hold_L16 B  Q n v0 v1 v2 Z I L → jJ G 6 16 [(0, .ref v0), (1, .int v1), (2, .int v2)] [] Z I L (jcz Z - jcz Z0) (jsz Z - jsz Z0) := by
  intro n
  induction n with
  | zero => intro v0 v1 v2 Z I L _ _ _ _ _ h; exact h.elim
  | succ n ih =>
    intro v0 v1 v2 Z I L hZ hx hc hb kv0 h
    have h : (((I v0 4) ≤ v2 → (∀ b3 : Nat, jr Z v0 10 = some b3 → (f_X1_run b3 v1 Z I L (fun I6 L7 => Q Z I6 L7)))) ∧ (¬ ((I v0 4) ≤ v2) → (f_X11_find v0 v2 Z I L (fun r16 I12 L13 => ((r16 = none → f_X11_hold_b81 B (f_X11_hold_L16 B Q n) Q v0 v1 v2 Z I12 L13) ∧ (∀ b17 : Nat, r16 = some b17 → (∀ b19 : Nat, jr Z b17 8 = some b19 → (f_X6_lay b19 (I12 b17 3) (I12 b17 4) (-1 : Int32) Z I12 L13 (fun I22 L23 => (∀ b26 : Nat, jr Z b17 8 = some b26 → (f_X6_cheapest B b26 Z I22 L23 (fun r33 Z28 I29 L30 => (((lg_cmp r33 (9223372036854775807 : Int64)) = 0 → f_X11_hold_b81 B (f_X11_hold_L16 B Q n) Q v0 v1 v2 Z28 I29 L30) ∧ (¬ ((lg_cmp r33 (9223372036854775807 : Int64)) = 0) → (∀ b37 : Nat, jr Z28 v0 10 = some b37 → (f_X1_invite b37 v2 r33 Z28 I29 L30 (fun I40 L41 => f_X11_hold_b81 B (f_X11_hold_L16 B Q n) Q v0 v1 v2 Z28 I40 L41))))))))))))))))) := h
    obtain ⟨K16, eK16⟩ : ∃ K : Nat → Int32 → Int32 → jZ → jI → jL → Prop, K = f_X11_hold_L16 B  Q n := ⟨_, rfl⟩
    have hK16 := ih
    clear eK16 K16
    generalize f_X11_hold_L16 B  Q n = K16 at hK16 h
    refine j_iload_n E dX11_hold_16 2 rfl ?_
    refine j_aload_n E dX11_hold_17 0 rfl ?_
    refine j_geti E 11 4 rfl rfl (by decide) (by decide) (iw iT_11) rfl rfl (tw W_431) kv0 dX11_hold_18 ?_
    refine j_icmp_ge E 87 dX11_hold_21 (by decide) (fun c2 => ?_) (fun c2 => ?_)
    · have h := h.1 c2
      refine j_aload_n E dX11_hold_87 0 rfl ?_
      obtain ⟨b3, eb3, kb3⟩ := sh_o hZ kv0 (j := 10) (k := 1) rfl
      have h := h b3 eb3
      refine j_getr E 11 10 rfl rfl (by decide) (by decide) (iw iT_11) rfl rfl (tw W_643) kv0 eb3 dX11_hold_88 ?_
      refine j_iload_n E dX11_hold_91 1 rfl ?_
      refine j_callV E [.int v1] [] (c_X1_run (gL G) (gD G) (gY G) b3 v1 Z I L _ hZ kb3 h) (gwV W_645 W_646 W_647 W_142 W_644) rfl ⟨rfl, fy_X1_run⟩ ⟨Nat.le_of_ble_eq_true rfl, Nat.le_of_ble_eq_true rfl⟩ (c := 1) rfl (by decide) kb3 rfl rfl (Nat.le_of_ble_eq_true rfl) (ju_kn hb) dX11_hold_92 (fun v4 Z5 I6 L7 q8 => ?_)
      obtain ⟨rfl, rfl, h⟩ := q8
      show jJ G 6 95 [(0, .ref v0), (1, .int v1), (2, .int v2)] [] Z I6 L7 (jcz Z - jcz Z0) (jsz Z - jsz Z0)
      exact ju_return E EU hc hb ⟨hx, hZ, hb, rfl, h⟩ dX11_hold_95
    · have h := h.2 c2
      refine j_aload_n E dX11_hold_24 0 rfl ?_
      refine j_iload_n E dX11_hold_25 2 rfl ?_
      refine j_callV E [.int v2] [] (c_X11_find (gL G) (gD G) (gY G) v0 v2 Z I L _ hZ kv0 h) (gwV W_437 W_438 W_439 W_40 W_436) rfl ⟨rfl, fy_X11_find⟩ ⟨Nat.le_of_ble_eq_true rfl, Nat.le_of_ble_eq_true rfl⟩ (c := 11) rfl (by decide) kv0 rfl rfl (Nat.le_of_ble_eq_true rfl) (ju_kn hb) dX11_hold_26 (fun v10 Z11 I12 L13 q14 => ?_)
      obtain ⟨rfl, r16, rfl, zr16, h⟩ := q14
      show jJ G 6 29 [(0, .ref v0), (1, .int v1), (2, .int v2)] (va_rf r16 :: []) Z I12 L13 (jcz Z - jcz Z0) (jsz Z - jsz Z0)
      rcases c18 : r16 with _ | b17
      · have h := h.1 c18
        refine j_rfN rfl ?_
        refine j_astore_nN E 3 [(3, .null), (0, .ref v0), (1, .int v1), (2, .int v2)] dX11_hold_29 rfl (by decide) rfl ?_
        refine j_aload_nN E dX11_hold_30 0 rfl ?_
        refine j_ifnonnullN E dX11_hold_31 ?_
        refine j_goto E 81 dX11_hold_34 (by decide) ?_
        refine j_sub [1, 2, 3] rfl ?_
        exact m_X11_hold_b81 E EU K16 hK16 v0 v1 v2 Z I12 L13 hZ hx hc hb kv0 h
      · have h := h.2 b17 c18
        have kb17 := zr16 b17 c18
        refine j_rfS rfl ?_
        refine j_astore_n E 3 [(3, .ref b17), (0, .ref v0), (1, .int v1), (2, .int v2)] dX11_hold_29 rfl (by decide) rfl ?_
        refine j_aload_n E dX11_hold_30 0 rfl ?_
        refine j_ifnonnull E 37 dX11_hold_31 (by decide) ?_
        refine j_aload_n E dX11_hold_37 0 rfl ?_
        obtain ⟨b19, eb19, kb19⟩ := sh_o hZ kb17 (j := 8) (k := 6) rfl
        have h := h b19 eb19
        refine j_getrN E 5 8 rfl rfl (by decide) (by decide) (iw iT_5) rfl rfl (nw_5_8_X11_263) kb17 eb19 dX11_hold_38 ?_
        refine j_aload_n E dX11_hold_41 0 rfl ?_
        refine j_getiN E 5 3 rfl rfl (by decide) (by decide) (iw iT_5) rfl rfl (nw_5_3_X11_213) kb17 dX11_hold_42 ?_
        refine j_aload_n E dX11_hold_45 0 rfl ?_
        refine j_getiN E 5 4 rfl rfl (by decide) (by decide) (iw iT_5) rfl rfl (nw_5_4_X11_196) kb17 dX11_hold_46 ?_
        refine j_iconst E (v := -1) dX11_hold_49 (by decide) ?_
        refine j_callV E [.int (I12 b17 3), .int (I12 b17 4), .int (-1 : Int32)] [] (c_X6_lay (gL G) (gD G) (gY G) b19 (I12 b17 3) (I12 b17 4) (-1 : Int32) Z I12 L13 _ hZ kb19 h) (gwV W_532 W_533 W_534 W_33 W_531) rfl ⟨rfl, fy_X6_lay⟩ ⟨Nat.le_of_ble_eq_true rfl, Nat.le_of_ble_eq_true rfl⟩ (c := 6) rfl (by decide) kb19 rfl rfl (Nat.le_of_ble_eq_true rfl) (ju_kn hb) dX11_hold_50 (fun v20 Z21 I22 L23 q24 => ?_)
        obtain ⟨rfl, rfl, h⟩ := q24
        show jJ G 6 53 [(3, .ref b17), (0, .ref v0), (1, .int v1), (2, .int v2)] [] Z I22 L23 (jcz Z - jcz Z0) (jsz Z - jsz Z0)
        refine j_aload_n E dX11_hold_53 0 rfl ?_
        obtain ⟨b26, eb26, kb26⟩ := sh_o hZ kb17 (j := 8) (k := 6) rfl
        have h := h b26 eb26
        refine j_getrN E 5 8 rfl rfl (by decide) (by decide) (iw iT_5) rfl rfl (nw_5_8_X11_263) kb17 eb26 dX11_hold_54 ?_
        refine ju_callV E [] [] (c_X6_cheapest (gL G) (gD G) (gY G) B b26 Z I22 L23 _ hZ hb kb26 h) (gwV W_536 W_537 W_538 W_33 W_535) rfl ⟨rfl, fy_X6_cheapest⟩ ⟨Nat.le_of_ble_eq_true rfl, Nat.le_of_ble_eq_true rfl⟩ (c := 6) rfl (by decide) kb26 rfl rfl (Nat.le_of_ble_eq_true rfl) (ju_f hc hb) dX11_hold_57 (fun v27 Z28 I29 L30 q31 j32 => ?_)
        refine ju_next hc j32 ?_
        have hc := jle_trans hc j32
        obtain ⟨yZ28, hZ28, hbZ28, r33, rfl, h⟩ := q31
        have hZ := hZ28
        have hx : jext Z0 Z28 := jext_trans hx yZ28
        have hb := hbZ28
        have k34 := (yZ28 _ _ kv0).1
        have k35 := (yZ28 _ _ kb17).1
        show jJ G 6 60 [(3, .ref b17), (0, .ref v0), (1, .int v1), (2, .int v2)] [.long r33] Z28 I29 L30 (jcz Z28 - jcz Z0) (jsz Z28 - jsz Z0)
        refine j_lstore E 4 [(4, .long r33), (3, .ref b17), (0, .ref v0), (1, .int v1), (2, .int v2)] dX11_hold_60 (by decide) rfl ?_
        refine j_lload E dX11_hold_62 0 rfl ?_
        refine j_ldc2 E (tw W_539) dX11_hold_64 ?_
        refine j_lcmp E dX11_hold_67 ?_
        refine j_if_eq E 81 dX11_hold_68 (by decide) (fun c36 => ?_) (fun c36 => ?_)
        · have h := h.1 c36
          refine j_sub [2, 3, 4] rfl ?_
          exact m_X11_hold_b81 E EU K16 hK16 v0 v1 v2 Z28 I29 L30 hZ hx hc hb k34 h
        · have h := h.2 c36
          refine j_aload_n E dX11_hold_71 2 rfl ?_
          obtain ⟨b37, eb37, kb37⟩ := sh_o hZ k34 (j := 10) (k := 1) rfl
          have h := h b37 eb37
          refine j_getr E 11 10 rfl rfl (by decide) (by decide) (iw iT_11) rfl rfl (tw W_643) k34 eb37 dX11_hold_72 ?_
          refine j_iload_n E dX11_hold_75 4 rfl ?_
          refine j_lload E dX11_hold_76 0 rfl ?_
          refine j_callV E [.int v2, .long r33] [] (c_X1_invite (gL G) (gD G) (gY G) b37 v2 r33 Z28 I29 L30 _ hZ kb37 h) (gwV W_649 W_650 W_651 W_142 W_648) rfl ⟨rfl, fy_X1_invite⟩ ⟨Nat.le_of_ble_eq_true rfl, Nat.le_of_ble_eq_true rfl⟩ (c := 1) rfl (by decide) kb37 rfl rfl (Nat.le_of_ble_eq_true rfl) (ju_kn hb) dX11_hold_78 (fun v38 Z39 I40 L41 q42 => ?_)
          obtain ⟨rfl, rfl, h⟩ := q42
          show jJ G 6 81 [(4, .long r33), (3, .ref b17), (0, .ref v0), (1, .int v1), (2, .int v2)] [] Z28 I40 L41 (jcz Z28 - jcz Z0) (jsz Z28 - jsz Z0)
          refine j_sub [2, 3, 4] rfl ?_
          exact m_X11_hold_b81 E EU K16 hK16 v0 v1 v2 Z28 I40 L41 hZ hx hc hb k34 h
set_option maxRecDepth 100000 in
def f_X11_hold (B : Nat × Nat) (v0 : Nat) (v1 : Int32) (Z : jZ) (I : jI) (L : jL) (Q : jZ → jI → jL → Prop) : Prop := (∀ b44 : Nat, jr Z v0 10 = some b44 → (∀ b45 : Nat, jr Z v0 2 = some b45 → (f_X1_prepare b44 (I b45 9) Z I L (fun I48 L49 => (∃ m16 : Nat, f_X11_hold_L16 B  Q m16 v0 v1 (0 : Int32) Z I48 L49)))))
set_option maxHeartbeats 4000000 in
set_option maxRecDepth 100000 in
theorem c_X11_hold (l : Launch) (D : va_G) (cy : jC) (B : Nat × Nat) (v0 : Nat) (v1 : Int32) (Z : jZ) (I : jI) (L : jL) (Q : jZ → jI → jL → Prop) (hZ : SH Z) (hb : jin B Z) (kv0 : jk Z v0 11) (h : f_X11_hold B v0 v1 Z I L Q) : jCtU l yX11_hold w_X11_hold B 7 183 D cy [.ref v0, .int v1] Z I L (urtV B Z Q) := by
  refine jCtU_of (cc := cX11_hold) (maxL := 6) (ret := none) (by decide +kernel) rfl (Nat.le_of_ble_eq_true rfl) ?_
  intro G eD eY eL E EU
  subst eD; subst eY; subst eL
  have E : jE G cX11_hold RX11 w_X11_hold 6 none (jrm B 7 183 Z) jRF := E
  have hx : jext Z Z := jext_rfl
  have hc : jle Z Z := jle_rfl
  show jJ G 6 0 [(0, .ref v0), (1, .int v1)] [] Z I L (jcz Z - jcz Z) (jsz Z - jsz Z)
  refine j_aload_n E dX11_hold_0 0 rfl ?_
  obtain ⟨b44, eb44, kb44⟩ := sh_o hZ kv0 (j := 10) (k := 1) rfl
  have h := h b44 eb44
  refine j_getr E 11 10 rfl rfl (by decide) (by decide) (iw iT_11) rfl rfl (tw W_643) kv0 eb44 dX11_hold_1 ?_
  refine j_aload_n E dX11_hold_4 0 rfl ?_
  obtain ⟨b45, eb45, kb45⟩ := sh_o hZ kv0 (j := 2) (k := 8) rfl
  have h := h b45 eb45
  refine j_getr E 11 2 rfl rfl (by decide) (by decide) (iw iT_11) rfl rfl (tw W_454) kv0 eb45 dX11_hold_5 ?_
  refine j_getiN E 8 9 rfl rfl (by decide) (by decide) (iw iT_8) rfl rfl (nw_8_9_X11_172) kb45 dX11_hold_8 ?_
  refine j_callV E [.int (I b45 9)] [] (c_X1_prepare (gL G) (gD G) (gY G) b44 (I b45 9) Z I L _ hZ kb44 h) (gwV W_653 W_654 W_655 W_142 W_652) rfl ⟨rfl, fy_X1_prepare⟩ ⟨Nat.le_of_ble_eq_true rfl, Nat.le_of_ble_eq_true rfl⟩ (c := 1) rfl (by decide) kb44 rfl rfl (Nat.le_of_ble_eq_true rfl) (ju_kn hb) dX11_hold_11 (fun v46 Z47 I48 L49 q50 => ?_)
  obtain ⟨rfl, rfl, h⟩ := q50
  show jJ G 6 14 [(0, .ref v0), (1, .int v1)] [] Z I48 L49 (jcz Z - jcz Z) (jsz Z - jsz Z)
  refine j_iconst E (v := 0) dX11_hold_14 (by decide) ?_
  refine j_istore_n E 2 [(2, .int (0 : Int32)), (0, .ref v0), (1, .int v1)] dX11_hold_15 rfl (by decide) rfl ?_
  obtain ⟨n52, h⟩ := h
  refine j_sub [1, 2, 0] rfl ?_
  exact m_X11_hold_L16 E EU  n52 v0 v1 (0 : Int32) Z I48 L49 hZ hx hc hb kv0 h
set_option maxRecDepth 100000 in
def f_X11_feast_b56 (B : Nat × Nat)  (Q : Int32 → jZ → jI → jL → Prop) (v0 : Nat) (v2 : Int32) (s0 : Nat) (s1 : Int64) (Z : jZ) (I : jI) (L : jL) : Prop := (f_X11_tellTwo s0 s1 (v2.toInt64) Z I L (fun I3 L4 => (∀ b7 : Nat, jr Z v0 10 = some b7 → (f_X11_tellMore v0 ((I3 b7 9).toInt64) Z I3 L4 (fun I10 L11 => (∀ b14 : Nat, jr Z v0 10 = some b14 → Q (I10 b14 8) Z I10 L11))))))
set_option maxHeartbeats 4000000 in
set_option maxRecDepth 100000 in
theorem m_X11_feast_b56 {G : jG} {B : Nat × Nat} {Z0 : jZ} {Q : Int32 → jZ → jI → jL → Prop} (E : jE G cX11_feast RX11 w_X11_feast 3 (some .int) (jrm B 8 208 Z0) jRF) (EU : jEU G B Z0 (urtI B Z0 Q))  (v0 : Nat) (v2 : Int32) (s0 : Nat) (s1 : Int64) (Z : jZ) (I : jI) (L : jL) (hZ : SH Z) (hx : jext Z0 Z) (hc : jle Z0 Z) (hb : jin B Z) (kv0 : jk Z v0 11) (ks0 : jk Z s0 11) (h : f_X11_feast_b56 B  Q v0 v2 s0 s1 Z I L) : jJ G 3 56 [(0, .ref v0), (2, .int v2)] [.long s1, .ref s0] Z I L (jcz Z - jcz Z0) (jsz Z - jsz Z0) := by
  refine j_iload_n E dX11_feast_56 1 rfl ?_
  refine j_i2l E dX11_feast_57 ?_
  refine j_callV E [.long s1, .long (v2.toInt64)] [] (c_X11_tellTwo (gL G) (gD G) (gY G) s0 s1 (v2.toInt64) Z I L _ hZ ks0 h) (gwV W_501 W_502 W_503 W_40 W_500) rfl ⟨rfl, fy_X11_tellTwo⟩ ⟨Nat.le_of_ble_eq_true rfl, Nat.le_of_ble_eq_true rfl⟩ (c := 11) rfl (by decide) ks0 rfl rfl (Nat.le_of_ble_eq_true rfl) (ju_kn hb) dX11_feast_58 (fun v1 Z2 I3 L4 q5 => ?_)
  obtain ⟨rfl, rfl, h⟩ := q5
  show jJ G 3 61 [(0, .ref v0), (2, .int v2)] [] Z I3 L4 (jcz Z - jcz Z0) (jsz Z - jsz Z0)
  refine j_aload_n E dX11_feast_61 0 rfl ?_
  refine j_aload_n E dX11_feast_62 0 rfl ?_
  obtain ⟨b7, eb7, kb7⟩ := sh_o hZ kv0 (j := 10) (k := 1) rfl
  have h := h b7 eb7
  refine j_getr E 11 10 rfl rfl (by decide) (by decide) (iw iT_11) rfl rfl (tw W_643) kv0 eb7 dX11_feast_63 ?_
  refine j_getiN E 1 9 rfl rfl (by decide) (by decide) (iw iT_1) rfl rfl (nw_1_9_X11_403) kb7 dX11_feast_66 ?_
  refine j_i2l E dX11_feast_69 ?_
  refine j_callV E [.long ((I3 b7 9).toInt64)] [] (c_X11_tellMore (gL G) (gD G) (gY G) v0 ((I3 b7 9).toInt64) Z I3 L4 _ hZ kv0 h) (gwV W_488 W_489 W_490 W_40 W_487) rfl ⟨rfl, fy_X11_tellMore⟩ ⟨Nat.le_of_ble_eq_true rfl, Nat.le_of_ble_eq_true rfl⟩ (c := 11) rfl (by decide) kv0 rfl rfl (Nat.le_of_ble_eq_true rfl) (ju_kn hb) dX11_feast_70 (fun v8 Z9 I10 L11 q12 => ?_)
  obtain ⟨rfl, rfl, h⟩ := q12
  show jJ G 3 73 [(0, .ref v0), (2, .int v2)] [] Z I10 L11 (jcz Z - jcz Z0) (jsz Z - jsz Z0)
  refine j_aload_n E dX11_feast_73 0 rfl ?_
  obtain ⟨b14, eb14, kb14⟩ := sh_o hZ kv0 (j := 10) (k := 1) rfl
  have h := h b14 eb14
  refine j_getr E 11 10 rfl rfl (by decide) (by decide) (iw iT_11) rfl rfl (tw W_643) kv0 eb14 dX11_feast_74 ?_
  refine j_getiN E 1 8 rfl rfl (by decide) (by decide) (iw iT_1) rfl rfl (nw_1_8_X11_406) kb14 dX11_feast_77 ?_
  exact ju_ireturn E EU hc hb ⟨hx, hZ, hb, _, rfl, h⟩ dX11_feast_80
set_option maxRecDepth 100000 in
def f_X11_feast (B : Nat × Nat) (v0 : Nat) (v1 : Int32) (Z : jZ) (I : jI) (L : jL) (Q : Int32 → jZ → jI → jL → Prop) : Prop := ((v1 < (1 : Int32) → Q (-1 : Int32) Z I L) ∧ (¬ (v1 < (1 : Int32)) → (((6 : Int32) < v1 → Q (-1 : Int32) Z I L) ∧ (¬ ((6 : Int32) < v1) → (∀ b17 : Nat, jr Z v0 2 = some b17 → ((¬ (I b17 9) = 0 → (f_X11_hold B v0 v1 Z I L (fun Z20 I21 L22 => (∀ b26 : Nat, jr Z20 v0 10 = some b26 → (f_X1_longestWaiting b26 Z20 I21 L22 (fun r33 I29 L30 => ((¬ r33 = (-1 : Int32) → (∀ b35 : Nat, jr Z20 v0 10 = some b35 → (∀ b36 : Nat, jr Z20 b35 3 = some b36 → (vp_in r33 6 ∧ f_X11_feast_b56 B  Q v0 r33 v0 ((I29 b36 r33.toNatClampNeg).toInt64) Z20 I29 L30)))) ∧ (r33 = (-1 : Int32) → f_X11_feast_b56 B  Q v0 r33 v0 (0 : Int64) Z20 I29 L30)))))))) ∧ ((I b17 9) = 0 → Q (-1 : Int32) Z I L)))))))
set_option maxHeartbeats 4000000 in
set_option maxRecDepth 100000 in
theorem c_X11_feast (l : Launch) (D : va_G) (cy : jC) (B : Nat × Nat) (v0 : Nat) (v1 : Int32) (Z : jZ) (I : jI) (L : jL) (Q : Int32 → jZ → jI → jL → Prop) (hZ : SH Z) (hb : jin B Z) (kv0 : jk Z v0 11) (h : f_X11_feast B v0 v1 Z I L Q) : jCtU l yX11_feast w_X11_feast B 8 208 D cy [.ref v0, .int v1] Z I L (urtI B Z Q) := by
  refine jCtU_of (cc := cX11_feast) (maxL := 3) (ret := (some .int)) (by decide +kernel) rfl (Nat.le_of_ble_eq_true rfl) ?_
  intro G eD eY eL E EU
  subst eD; subst eY; subst eL
  have E : jE G cX11_feast RX11 w_X11_feast 3 (some .int) (jrm B 8 208 Z) jRF := E
  have hx : jext Z Z := jext_rfl
  have hc : jle Z Z := jle_rfl
  show jJ G 3 0 [(0, .ref v0), (1, .int v1)] [] Z I L (jcz Z - jcz Z) (jsz Z - jsz Z)
  refine j_iload_n E dX11_feast_0 1 rfl ?_
  refine j_iconst E (v := 1) dX11_feast_1 (by decide) ?_
  refine j_icmp_lt E 21 dX11_feast_2 (by decide) (fun c15 => ?_) (fun c15 => ?_)
  · have h := h.1 c15
    refine j_iconst E (v := -1) dX11_feast_21 (by decide) ?_
    exact ju_ireturn E EU hc hb ⟨hx, hZ, hb, _, rfl, h⟩ dX11_feast_22
  · have h := h.2 c15
    refine j_iload_n E dX11_feast_5 1 rfl ?_
    refine j_bipush E (v := 6) dX11_feast_6 (by decide) ?_
    refine j_icmp_gt E 21 dX11_feast_8 (by decide) (fun c16 => ?_) (fun c16 => ?_)
    · have h := h.1 c16
      refine j_iconst E (v := -1) dX11_feast_21 (by decide) ?_
      exact ju_ireturn E EU hc hb ⟨hx, hZ, hb, _, rfl, h⟩ dX11_feast_22
    · have h := h.2 c16
      refine j_aload_n E dX11_feast_11 0 rfl ?_
      obtain ⟨b17, eb17, kb17⟩ := sh_o hZ kv0 (j := 2) (k := 8) rfl
      have h := h b17 eb17
      refine j_getr E 11 2 rfl rfl (by decide) (by decide) (iw iT_11) rfl rfl (tw W_454) kv0 eb17 dX11_feast_12 ?_
      refine j_getiN E 8 9 rfl rfl (by decide) (by decide) (iw iT_8) rfl rfl (nw_8_9_X11_172) kb17 dX11_feast_15 ?_
      refine j_if_ne E 23 dX11_feast_18 (by decide) (fun c18 => ?_) (fun c18 => ?_)
      · have h := h.1 c18
        refine j_aload_n E dX11_feast_23 0 rfl ?_
        refine j_iload_n E dX11_feast_24 1 rfl ?_
        refine ju_callV E [.int v1] [] (c_X11_hold (gL G) (gD G) (gY G) B v0 v1 Z I L _ hZ hb kv0 h) (gwV W_657 W_658 W_659 W_40 W_656) rfl ⟨rfl, fy_X11_hold⟩ ⟨Nat.le_of_ble_eq_true rfl, Nat.le_of_ble_eq_true rfl⟩ (c := 11) rfl (by decide) kv0 rfl rfl (Nat.le_of_ble_eq_true rfl) (ju_f hc hb) dX11_feast_25 (fun v19 Z20 I21 L22 q23 j24 => ?_)
        refine ju_next hc j24 ?_
        have hc := jle_trans hc j24
        obtain ⟨yZ20, hZ20, hbZ20, rfl, h⟩ := q23
        have hZ := hZ20
        have hx : jext Z Z20 := jext_trans hx yZ20
        have hb := hbZ20
        have k25 := (yZ20 _ _ kv0).1
        show jJ G 3 28 [(0, .ref v0), (1, .int v1)] [] Z20 I21 L22 (jcz Z20 - jcz Z) (jsz Z20 - jsz Z)
        refine j_aload_n E dX11_feast_28 0 rfl ?_
        obtain ⟨b26, eb26, kb26⟩ := sh_o hZ k25 (j := 10) (k := 1) rfl
        have h := h b26 eb26
        refine j_getr E 11 10 rfl rfl (by decide) (by decide) (iw iT_11) rfl rfl (tw W_643) k25 eb26 dX11_feast_29 ?_
        refine j_callV E [] [] (c_X1_longestWaiting (gL G) (gD G) (gY G) b26 Z20 I21 L22 _ hZ kb26 h) (gwV W_661 W_662 W_663 W_142 W_660) rfl ⟨rfl, fy_X1_longestWaiting⟩ ⟨Nat.le_of_ble_eq_true rfl, Nat.le_of_ble_eq_true rfl⟩ (c := 1) rfl (by decide) kb26 rfl rfl (Nat.le_of_ble_eq_true rfl) (ju_kn hb) dX11_feast_32 (fun v27 Z28 I29 L30 q31 => ?_)
        obtain ⟨rfl, r33, rfl, h⟩ := q31
        show jJ G 3 35 [(0, .ref v0), (1, .int v1)] [.int r33] Z20 I29 L30 (jcz Z20 - jcz Z) (jsz Z20 - jsz Z)
        refine j_istore_n E 2 [(2, .int r33), (0, .ref v0), (1, .int v1)] dX11_feast_35 rfl (by decide) rfl ?_
        refine j_aload_n E dX11_feast_36 1 rfl ?_
        refine j_iload_n E dX11_feast_37 0 rfl ?_
        refine j_iconst E (v := -1) dX11_feast_38 (by decide) ?_
        refine j_icmp_ne E 46 dX11_feast_39 (by decide) (fun c34 => ?_) (fun c34 => ?_)
        · have h := h.1 c34
          refine j_aload_n E dX11_feast_46 1 rfl ?_
          obtain ⟨b35, eb35, kb35⟩ := sh_o hZ k25 (j := 10) (k := 1) rfl
          have h := h b35 eb35
          refine j_getr E 11 10 rfl rfl (by decide) (by decide) (iw iT_11) rfl rfl (tw W_643) k25 eb35 dX11_feast_47 ?_
          obtain ⟨b36, eb36, kb36, lb36⟩ := sh_f hZ kb35 (j := 3) (k := 14) (m := 6) rfl
          have h := h b36 eb36
          refine j_getrN E 1 3 rfl rfl (by decide) (by decide) (iw iT_1) rfl rfl (nw_1_3_X11_400) kb35 eb36 dX11_feast_50 ?_
          refine j_iload_n E dX11_feast_53 0 rfl ?_
          obtain ⟨o37, h⟩ := h
          refine j_iald E kb36 (by rw [lb36]; exact o37) dX11_feast_54 ?_
          refine j_i2l E dX11_feast_55 ?_
          refine j_sub [1, 0] rfl ?_
          exact m_X11_feast_b56 E EU  v0 r33 v0 ((I29 b36 r33.toNatClampNeg).toInt64) Z20 I29 L30 hZ hx hc hb k25 k25 h
        · have h := h.2 c34
          refine j_lconst E (v := 0) dX11_feast_42 (by decide) ?_
          refine j_goto E 56 dX11_feast_43 (by decide) ?_
          refine j_sub [1, 0] rfl ?_
          exact m_X11_feast_b56 E EU  v0 r33 v0 (0 : Int64) Z20 I29 L30 hZ hx hc hb k25 k25 h
      · have h := h.2 c18
        refine j_iconst E (v := -1) dX11_feast_21 (by decide) ?_
        exact ju_ireturn E EU hc hb ⟨hx, hZ, hb, _, rfl, h⟩ dX11_feast_22
set_option maxRecDepth 100000 in
def f_X11_jam_b59 (B : Nat × Nat) (K22 : Nat → Int32 → Int32 → jZ → jI → jL → Prop) (Q : Int32 → jZ → jI → jL → Prop) (v0 : Nat) (v2 : Int32) (s0 : Int32) (Z : jZ) (I : jI) (L : jL) : Prop := (∀ x1 : Int32, x1 = v2 + 1 → K22 v0 s0 x1 Z I L)
set_option maxHeartbeats 4000000 in
set_option maxRecDepth 100000 in
theorem m_X11_jam_b59 {G : jG} {B : Nat × Nat} {Z0 : jZ} {Q : Int32 → jZ → jI → jL → Prop} (E : jE G cX11_jam RX11 w_X11_jam 3 (some .int) (jrm B 8 208 Z0) jRF) (EU : jEU G B Z0 (urtI B Z0 Q)) (K22 : Nat → Int32 → Int32 → jZ → jI → jL → Prop) (hK22 : ∀ (v0 : Nat) (v1 : Int32) (v2 : Int32) (Z : jZ) (I : jI) (L : jL), SH Z → jext Z0 Z → jle Z0 Z → jin B Z → jk Z v0 11 → K22 v0 v1 v2 Z I L → jJ G 3 22 [(0, .ref v0), (1, .int v1), (2, .int v2)] [] Z I L (jcz Z - jcz Z0) (jsz Z - jsz Z0)) (v0 : Nat) (v2 : Int32) (s0 : Int32) (Z : jZ) (I : jI) (L : jL) (hZ : SH Z) (hx : jext Z0 Z) (hc : jle Z0 Z) (hb : jin B Z) (kv0 : jk Z v0 11) (h : f_X11_jam_b59 B K22 Q v0 v2 s0 Z I L) : jJ G 3 59 [(0, .ref v0), (2, .int v2)] [.int s0] Z I L (jcz Z - jcz Z0) (jsz Z - jsz Z0) := by
  refine j_istore_n E 1 [(1, .int s0), (0, .ref v0), (2, .int v2)] dX11_jam_59 rfl (by decide) rfl ?_
  obtain ⟨x1, ex1⟩ : ∃ y : Int32, y = v2 + 1 := ⟨_, rfl⟩
  have h := h x1 ex1
  refine j_iinc E x1 [(2, .int x1), (1, .int s0), (0, .ref v0)] dX11_jam_60 2 rfl (by rw [ex1]; rfl) (by decide) rfl ?_
  refine j_goto E 22 dX11_jam_63 (by decide) ?_
  refine j_sub [2, 1, 0] rfl ?_
  exact hK22 v0 s0 x1 Z I L hZ hx hc hb kv0 h
set_option maxRecDepth 100000 in
def f_X11_jam_L22 (B : Nat × Nat)  (Q : Int32 → jZ → jI → jL → Prop) : Nat → Nat → Int32 → Int32 → jZ → jI → jL → Prop
  | 0 => fun _ _ _ _ _ _ => False
  | n + 1 => fun v0 v1 v2 Z I L => (∀ b2 : Nat, jr Z v0 2 = some b2 → (((I b2 9) ≤ v2 → (∀ b4 : Nat, jr Z v0 10 = some b4 → (∀ b5 : Nat, jr Z b4 5 = some b5 → (vp_in v1 24 ∧ ((¬ (I b5 v1.toNatClampNeg) = 0 → (∀ b8 : Nat, jr Z v0 10 = some b8 → (∀ b9 : Nat, jr Z b8 5 = some b9 → (vp_in v1 24 ∧ (f_X11_tellOne v0 ((I b9 v1.toNatClampNeg).toInt64) Z I L (fun I13 L14 => Q v1 Z I13 L14)))))) ∧ ((I b5 v1.toNatClampNeg) = 0 → Q (-2 : Int32) Z I L)))))) ∧ (¬ ((I b2 9) ≤ v2) → (∀ b17 : Nat, jr Z v0 10 = some b17 → (∀ b18 : Nat, jr Z b17 5 = some b18 → (vp_in v2 24 ∧ (∀ b20 : Nat, jr Z v0 10 = some b20 → (∀ b21 : Nat, jr Z b20 5 = some b21 → (vp_in v1 24 ∧ (((I b18 v2.toNatClampNeg) ≤ (I b21 v1.toNatClampNeg) → f_X11_jam_b59 B (f_X11_jam_L22 B Q n) Q v0 v2 v1 Z I L) ∧ (¬ ((I b18 v2.toNatClampNeg) ≤ (I b21 v1.toNatClampNeg)) → f_X11_jam_b59 B (f_X11_jam_L22 B Q n) Q v0 v2 v2 Z I L)))))))))))
set_option maxHeartbeats 4000000 in
set_option maxRecDepth 100000 in
theorem m_X11_jam_L22 {G : jG} {Z0 : jZ} {B : Nat × Nat} {Q : Int32 → jZ → jI → jL → Prop} (E : jE G cX11_jam RX11 w_X11_jam 3 (some .int) (jrm B 8 208 Z0) jRF) (EU : jEU G B Z0 (urtI B Z0 Q))  : ∀ (n : Nat) (v0 : Nat) (v1 : Int32) (v2 : Int32) (Z : jZ) (I : jI) (L : jL), SH Z → jext Z0 Z → jle Z0 Z → jin B Z → jk Z v0 11 → f_X11_jam_L22 B  Q n v0 v1 v2 Z I L → jJ G 3 22 [(0, .ref v0), (1, .int v1), (2, .int v2)] [] Z I L (jcz Z - jcz Z0) (jsz Z - jsz Z0) := by
  intro n
  induction n with
  | zero => intro v0 v1 v2 Z I L _ _ _ _ _ h; exact h.elim
  | succ n ih =>
    intro v0 v1 v2 Z I L hZ hx hc hb kv0 h
    have h : (∀ b2 : Nat, jr Z v0 2 = some b2 → (((I b2 9) ≤ v2 → (∀ b4 : Nat, jr Z v0 10 = some b4 → (∀ b5 : Nat, jr Z b4 5 = some b5 → (vp_in v1 24 ∧ ((¬ (I b5 v1.toNatClampNeg) = 0 → (∀ b8 : Nat, jr Z v0 10 = some b8 → (∀ b9 : Nat, jr Z b8 5 = some b9 → (vp_in v1 24 ∧ (f_X11_tellOne v0 ((I b9 v1.toNatClampNeg).toInt64) Z I L (fun I13 L14 => Q v1 Z I13 L14)))))) ∧ ((I b5 v1.toNatClampNeg) = 0 → Q (-2 : Int32) Z I L)))))) ∧ (¬ ((I b2 9) ≤ v2) → (∀ b17 : Nat, jr Z v0 10 = some b17 → (∀ b18 : Nat, jr Z b17 5 = some b18 → (vp_in v2 24 ∧ (∀ b20 : Nat, jr Z v0 10 = some b20 → (∀ b21 : Nat, jr Z b20 5 = some b21 → (vp_in v1 24 ∧ (((I b18 v2.toNatClampNeg) ≤ (I b21 v1.toNatClampNeg) → f_X11_jam_b59 B (f_X11_jam_L22 B Q n) Q v0 v2 v1 Z I L) ∧ (¬ ((I b18 v2.toNatClampNeg) ≤ (I b21 v1.toNatClampNeg)) → f_X11_jam_b59 B (f_X11_jam_L22 B Q n) Q v0 v2 v2 Z I L))))))))))) := h
    obtain ⟨K22, eK22⟩ : ∃ K : Nat → Int32 → Int32 → jZ → jI → jL → Prop, K = f_X11_jam_L22 B  Q n := ⟨_, rfl⟩
    have hK22 := ih
    clear eK22 K22
    generalize f_X11_jam_L22 B  Q n = K22 at hK22 h
    refine j_iload_n E dX11_jam_22 2 rfl ?_
    refine j_aload_n E dX11_jam_23 0 rfl ?_
    obtain ⟨b2, eb2, kb2⟩ := sh_o hZ kv0 (j := 2) (k := 8) rfl
    have h := h b2 eb2
    refine j_getr E 11 2 rfl rfl (by decide) (by decide) (iw iT_11) rfl rfl (tw W_454) kv0 eb2 dX11_jam_24 ?_
    refine j_getiN E 8 9 rfl rfl (by decide) (by decide) (iw iT_8) rfl rfl (nw_8_9_X11_172) kb2 dX11_jam_27 ?_
    refine j_icmp_ge E 66 dX11_jam_30 (by decide) (fun c3 => ?_) (fun c3 => ?_)
    · have h := h.1 c3
      refine j_aload_n E dX11_jam_66 0 rfl ?_
      obtain ⟨b4, eb4, kb4⟩ := sh_o hZ kv0 (j := 10) (k := 1) rfl
      have h := h b4 eb4
      refine j_getr E 11 10 rfl rfl (by decide) (by decide) (iw iT_11) rfl rfl (tw W_643) kv0 eb4 dX11_jam_67 ?_
      obtain ⟨b5, eb5, kb5, lb5⟩ := sh_f hZ kb4 (j := 5) (k := 14) (m := 24) rfl
      have h := h b5 eb5
      refine j_getrN E 1 5 rfl rfl (by decide) (by decide) (iw iT_1) rfl rfl (nw_1_5_X11_409) kb4 eb5 dX11_jam_70 ?_
      refine j_iload_n E dX11_jam_73 1 rfl ?_
      obtain ⟨o6, h⟩ := h
      refine j_iald E kb5 (by rw [lb5]; exact o6) dX11_jam_74 ?_
      refine j_if_ne E 81 dX11_jam_75 (by decide) (fun c7 => ?_) (fun c7 => ?_)
      · have h := h.1 c7
        refine j_aload_n E dX11_jam_81 0 rfl ?_
        refine j_aload_n E dX11_jam_82 0 rfl ?_
        obtain ⟨b8, eb8, kb8⟩ := sh_o hZ kv0 (j := 10) (k := 1) rfl
        have h := h b8 eb8
        refine j_getr E 11 10 rfl rfl (by decide) (by decide) (iw iT_11) rfl rfl (tw W_643) kv0 eb8 dX11_jam_83 ?_
        obtain ⟨b9, eb9, kb9, lb9⟩ := sh_f hZ kb8 (j := 5) (k := 14) (m := 24) rfl
        have h := h b9 eb9
        refine j_getrN E 1 5 rfl rfl (by decide) (by decide) (iw iT_1) rfl rfl (nw_1_5_X11_409) kb8 eb9 dX11_jam_86 ?_
        refine j_iload_n E dX11_jam_89 1 rfl ?_
        obtain ⟨o10, h⟩ := h
        refine j_iald E kb9 (by rw [lb9]; exact o10) dX11_jam_90 ?_
        refine j_i2l E dX11_jam_91 ?_
        refine j_callV E [.long ((I b9 v1.toNatClampNeg).toInt64)] [] (c_X11_tellOne (gL G) (gD G) (gY G) v0 ((I b9 v1.toNatClampNeg).toInt64) Z I L _ hZ kv0 h) (gwV W_492 W_493 W_494 W_40 W_491) rfl ⟨rfl, fy_X11_tellOne⟩ ⟨Nat.le_of_ble_eq_true rfl, Nat.le_of_ble_eq_true rfl⟩ (c := 11) rfl (by decide) kv0 rfl rfl (Nat.le_of_ble_eq_true rfl) (ju_kn hb) dX11_jam_92 (fun v11 Z12 I13 L14 q15 => ?_)
        obtain ⟨rfl, rfl, h⟩ := q15
        show jJ G 3 95 [(0, .ref v0), (1, .int v1), (2, .int v2)] [] Z I13 L14 (jcz Z - jcz Z0) (jsz Z - jsz Z0)
        refine j_iload_n E dX11_jam_95 1 rfl ?_
        exact ju_ireturn E EU hc hb ⟨hx, hZ, hb, _, rfl, h⟩ dX11_jam_96
      · have h := h.2 c7
        refine j_bipush E (v := -2) dX11_jam_78 (by decide) ?_
        exact ju_ireturn E EU hc hb ⟨hx, hZ, hb, _, rfl, h⟩ dX11_jam_80
    · have h := h.2 c3
      refine j_aload_n E dX11_jam_33 0 rfl ?_
      obtain ⟨b17, eb17, kb17⟩ := sh_o hZ kv0 (j := 10) (k := 1) rfl
      have h := h b17 eb17
      refine j_getr E 11 10 rfl rfl (by decide) (by decide) (iw iT_11) rfl rfl (tw W_643) kv0 eb17 dX11_jam_34 ?_
      obtain ⟨b18, eb18, kb18, lb18⟩ := sh_f hZ kb17 (j := 5) (k := 14) (m := 24) rfl
      have h := h b18 eb18
      refine j_getrN E 1 5 rfl rfl (by decide) (by decide) (iw iT_1) rfl rfl (nw_1_5_X11_409) kb17 eb18 dX11_jam_37 ?_
      refine j_iload_n E dX11_jam_40 2 rfl ?_
      obtain ⟨o19, h⟩ := h
      refine j_iald E kb18 (by rw [lb18]; exact o19) dX11_jam_41 ?_
      refine j_aload_n E dX11_jam_42 0 rfl ?_
      obtain ⟨b20, eb20, kb20⟩ := sh_o hZ kv0 (j := 10) (k := 1) rfl
      have h := h b20 eb20
      refine j_getr E 11 10 rfl rfl (by decide) (by decide) (iw iT_11) rfl rfl (tw W_643) kv0 eb20 dX11_jam_43 ?_
      obtain ⟨b21, eb21, kb21, lb21⟩ := sh_f hZ kb20 (j := 5) (k := 14) (m := 24) rfl
      have h := h b21 eb21
      refine j_getrN E 1 5 rfl rfl (by decide) (by decide) (iw iT_1) rfl rfl (nw_1_5_X11_409) kb20 eb21 dX11_jam_46 ?_
      refine j_iload_n E dX11_jam_49 1 rfl ?_
      obtain ⟨o22, h⟩ := h
      refine j_iald E kb21 (by rw [lb21]; exact o22) dX11_jam_50 ?_
      refine j_icmp_le E 58 dX11_jam_51 (by decide) (fun c23 => ?_) (fun c23 => ?_)
      · have h := h.1 c23
        refine j_iload_n E dX11_jam_58 1 rfl ?_
        refine j_sub [0, 2] rfl ?_
        exact m_X11_jam_b59 E EU K22 hK22 v0 v2 v1 Z I L hZ hx hc hb kv0 h
      · have h := h.2 c23
        refine j_iload_n E dX11_jam_54 2 rfl ?_
        refine j_goto E 59 dX11_jam_55 (by decide) ?_
        refine j_sub [0, 2] rfl ?_
        exact m_X11_jam_b59 E EU K22 hK22 v0 v2 v2 Z I L hZ hx hc hb kv0 h
set_option maxRecDepth 100000 in
def f_X11_jam (B : Nat × Nat) (v0 : Nat) (Z : jZ) (I : jI) (L : jL) (Q : Int32 → jZ → jI → jL → Prop) : Prop := (∀ b24 : Nat, jr Z v0 2 = some b24 → ((¬ (I b24 9) = 0 → (f_X11_hold B v0 (1 : Int32) Z I L (fun Z27 I28 L29 => (∃ m22 : Nat, f_X11_jam_L22 B  Q m22 v0 (0 : Int32) (1 : Int32) Z27 I28 L29)))) ∧ ((I b24 9) = 0 → Q (-2 : Int32) Z I L)))
set_option maxHeartbeats 4000000 in
set_option maxRecDepth 100000 in
theorem c_X11_jam (l : Launch) (D : va_G) (cy : jC) (B : Nat × Nat) (v0 : Nat) (Z : jZ) (I : jI) (L : jL) (Q : Int32 → jZ → jI → jL → Prop) (hZ : SH Z) (hb : jin B Z) (kv0 : jk Z v0 11) (h : f_X11_jam B v0 Z I L Q) : jCtU l yX11_jam w_X11_jam B 8 208 D cy [.ref v0] Z I L (urtI B Z Q) := by
  refine jCtU_of (cc := cX11_jam) (maxL := 3) (ret := (some .int)) (by decide +kernel) rfl (Nat.le_of_ble_eq_true rfl) ?_
  intro G eD eY eL E EU
  subst eD; subst eY; subst eL
  have E : jE G cX11_jam RX11 w_X11_jam 3 (some .int) (jrm B 8 208 Z) jRF := E
  have hx : jext Z Z := jext_rfl
  have hc : jle Z Z := jle_rfl
  show jJ G 3 0 [(0, .ref v0)] [] Z I L (jcz Z - jcz Z) (jsz Z - jsz Z)
  refine j_aload_n E dX11_jam_0 0 rfl ?_
  obtain ⟨b24, eb24, kb24⟩ := sh_o hZ kv0 (j := 2) (k := 8) rfl
  have h := h b24 eb24
  refine j_getr E 11 2 rfl rfl (by decide) (by decide) (iw iT_11) rfl rfl (tw W_454) kv0 eb24 dX11_jam_1 ?_
  refine j_getiN E 8 9 rfl rfl (by decide) (by decide) (iw iT_8) rfl rfl (nw_8_9_X11_172) kb24 dX11_jam_4 ?_
  refine j_if_ne E 13 dX11_jam_7 (by decide) (fun c25 => ?_) (fun c25 => ?_)
  · have h := h.1 c25
    refine j_aload_n E dX11_jam_13 0 rfl ?_
    refine j_iconst E (v := 1) dX11_jam_14 (by decide) ?_
    refine ju_callV E [.int (1 : Int32)] [] (c_X11_hold (gL G) (gD G) (gY G) B v0 (1 : Int32) Z I L _ hZ hb kv0 h) (gwV W_657 W_658 W_659 W_40 W_656) rfl ⟨rfl, fy_X11_hold⟩ ⟨Nat.le_of_ble_eq_true rfl, Nat.le_of_ble_eq_true rfl⟩ (c := 11) rfl (by decide) kv0 rfl rfl (Nat.le_of_ble_eq_true rfl) (ju_f hc hb) dX11_jam_15 (fun v26 Z27 I28 L29 q30 j31 => ?_)
    refine ju_next hc j31 ?_
    have hc := jle_trans hc j31
    obtain ⟨yZ27, hZ27, hbZ27, rfl, h⟩ := q30
    have hZ := hZ27
    have hx : jext Z Z27 := jext_trans hx yZ27
    have hb := hbZ27
    have k32 := (yZ27 _ _ kv0).1
    show jJ G 3 18 [(0, .ref v0)] [] Z27 I28 L29 (jcz Z27 - jcz Z) (jsz Z27 - jsz Z)
    refine j_iconst E (v := 0) dX11_jam_18 (by decide) ?_
    refine j_istore_n E 1 [(1, .int (0 : Int32)), (0, .ref v0)] dX11_jam_19 rfl (by decide) rfl ?_
    refine j_iconst E (v := 1) dX11_jam_20 (by decide) ?_
    refine j_istore_n E 2 [(2, .int (1 : Int32)), (1, .int (0 : Int32)), (0, .ref v0)] dX11_jam_21 rfl (by decide) rfl ?_
    obtain ⟨n33, h⟩ := h
    refine j_sub [2, 1, 0] rfl ?_
    exact m_X11_jam_L22 E EU  n33 v0 (0 : Int32) (1 : Int32) Z27 I28 L29 hZ hx hc hb k32 h
  · have h := h.2 c25
    refine j_bipush E (v := -2) dX11_jam_10 (by decide) ?_
    exact ju_ireturn E EU hc hb ⟨hx, hZ, hb, _, rfl, h⟩ dX11_jam_12
set_option maxRecDepth 100000 in
def f_X11_keep_b82 (K55 : Nat → Nat → Int32 → jI → jL → Prop) (Z : jZ) (Q : Int32 → jI → jL → Prop) (v0 : Nat) (v2 : Nat) (v3 : Int32) (I : jI) (L : jL) : Prop := (∀ x1 : Int32, x1 = v3 + 1 → K55 v0 v2 x1 I L)
set_option maxHeartbeats 4000000 in
set_option maxRecDepth 100000 in
theorem m_X11_keep_b82 {G : jG} {Z : jZ} {Q : Int32 → jI → jL → Prop} (E : jE G cX11_keep RX11 w_X11_keep 5 (some .boolean) { frames := 2, cells := 0, slots := 0, locals := 69 } (rtZ Z Q)) (hZ : SH Z) (K55 : Nat → Nat → Int32 → jI → jL → Prop) (hK55 : ∀ (v0 : Nat) (v2 : Nat) (v3 : Int32) (I : jI) (L : jL), jk Z v0 11 → jk Z v2 2 → K55 v0 v2 v3 I L → jJ G 5 55 [(0, .ref v0), (2, .ref v2), (3, .int v3)] [] Z I L 0 0) (v0 : Nat) (v2 : Nat) (v3 : Int32) (I : jI) (L : jL) (kv0 : jk Z v0 11) (kv2 : jk Z v2 2) (h : f_X11_keep_b82 K55 Z Q v0 v2 v3 I L) : jJ G 5 82 [(0, .ref v0), (2, .ref v2), (3, .int v3)] [] Z I L 0 0 := by
  obtain ⟨x1, ex1⟩ : ∃ y : Int32, y = v3 + 1 := ⟨_, rfl⟩
  have h := h x1 ex1
  refine j_iinc E x1 [(3, .int x1), (0, .ref v0), (2, .ref v2)] dX11_keep_82 2 rfl (by rw [ex1]; rfl) (by decide) rfl ?_
  refine j_goto E 55 dX11_keep_85 (by decide) ?_
  refine j_sub [1, 2, 0] rfl ?_
  exact hK55 v0 v2 x1 I L kv0 kv2 h
set_option maxRecDepth 100000 in
def f_X11_keep_L55  (Z : jZ) (Q : Int32 → jI → jL → Prop) : Nat → Nat → Nat → Int32 → jI → jL → Prop
  | 0 => fun _ _ _ _ _ => False
  | n + 1 => fun v0 v2 v3 I L => (((I v0 4) ≤ v3 → (∀ I3 : jI, I3 = jpI I v2 8 (1 : Int32) → Q (1 : Int32) I3 L)) ∧ (¬ ((I v0 4) ≤ v3) → (f_X11_find v0 v3 Z I L (fun r10 I6 L7 => ((r10 = none → f_X11_keep_b82 (f_X11_keep_L55 Z Q n) Z Q v0 v2 v3 I6 L7) ∧ (∀ b11 : Nat, r10 = some b11 → (f_X2_putPilgrim v2 v3 b11 Z I6 L7 (fun I15 L16 => f_X11_keep_b82 (f_X11_keep_L55 Z Q n) Z Q v0 v2 v3 I15 L16))))))))
set_option maxHeartbeats 4000000 in
set_option maxRecDepth 100000 in
theorem m_X11_keep_L55 {G : jG} {Z : jZ} {Q : Int32 → jI → jL → Prop} (E : jE G cX11_keep RX11 w_X11_keep 5 (some .boolean) { frames := 2, cells := 0, slots := 0, locals := 69 } (rtZ Z Q)) (hZ : SH Z)  : ∀ (n : Nat) (v0 : Nat) (v2 : Nat) (v3 : Int32) (I : jI) (L : jL), jk Z v0 11 → jk Z v2 2 → f_X11_keep_L55  Z Q n v0 v2 v3 I L → jJ G 5 55 [(0, .ref v0), (2, .ref v2), (3, .int v3)] [] Z I L 0 0 := by
  intro n
  induction n with
  | zero => intro v0 v2 v3 I L _ _ h; exact h.elim
  | succ n ih =>
    intro v0 v2 v3 I L kv0 kv2 h
    have h : (((I v0 4) ≤ v3 → (∀ I3 : jI, I3 = jpI I v2 8 (1 : Int32) → Q (1 : Int32) I3 L)) ∧ (¬ ((I v0 4) ≤ v3) → (f_X11_find v0 v3 Z I L (fun r10 I6 L7 => ((r10 = none → f_X11_keep_b82 (f_X11_keep_L55 Z Q n) Z Q v0 v2 v3 I6 L7) ∧ (∀ b11 : Nat, r10 = some b11 → (f_X2_putPilgrim v2 v3 b11 Z I6 L7 (fun I15 L16 => f_X11_keep_b82 (f_X11_keep_L55 Z Q n) Z Q v0 v2 v3 I15 L16)))))))) := h
    obtain ⟨K55, eK55⟩ : ∃ K : Nat → Nat → Int32 → jI → jL → Prop, K = f_X11_keep_L55  Z Q n := ⟨_, rfl⟩
    have hK55 := ih
    clear eK55 K55
    generalize f_X11_keep_L55  Z Q n = K55 at hK55 h
    refine j_iload_n E dX11_keep_55 2 rfl ?_
    refine j_aload_n E dX11_keep_56 0 rfl ?_
    refine j_geti E 11 4 rfl rfl (by decide) (by decide) (iw iT_11) rfl rfl (tw W_431) kv0 dX11_keep_57 ?_
    refine j_icmp_ge E 88 dX11_keep_60 (by decide) (fun c2 => ?_) (fun c2 => ?_)
    · have h := h.1 c2
      refine j_aload_n E dX11_keep_88 1 rfl ?_
      refine j_iconst E (v := 1) dX11_keep_89 (by decide) ?_
      refine j_putiN E 2 8 rfl rfl (by decide) (by decide) (iw iT_2) tyX2_ok nmX2 rfl rfl (nw_2_8_X11_124) rfl rfl rfl kv2 dX11_keep_90 ?_
      refine j_nmI (fun I3 eI3 => ?_)
      have h := h I3 eI3
      refine j_iconst E (v := 1) dX11_keep_93 (by decide) ?_
      exact j_zreturn E (Or.inr rfl) ⟨rfl, _, rfl, (Or.inr rfl), h⟩ (Nat.zero_le _) (Nat.zero_le _) dX11_keep_94
    · have h := h.2 c2
      refine j_aload_n E dX11_keep_63 0 rfl ?_
      refine j_iload_n E dX11_keep_64 2 rfl ?_
      refine j_callV E [.int v3] [] (c_X11_find (gL G) (gD G) (gY G) v0 v3 Z I L _ hZ kv0 h) (gwV W_437 W_438 W_439 W_40 W_436) rfl ⟨rfl, fy_X11_find⟩ ⟨by decide, by decide⟩ (c := 11) rfl (by decide) kv0 rfl rfl (Nat.le_of_ble_eq_true rfl) ⟨Nat.zero_le _, Nat.zero_le _⟩ dX11_keep_65 (fun v4 Z5 I6 L7 q8 => ?_)
      obtain ⟨rfl, r10, rfl, zr10, h⟩ := q8
      show jJ G 5 68 [(0, .ref v0), (2, .ref v2), (3, .int v3)] (va_rf r10 :: []) Z I6 L7 0 0
      rcases c12 : r10 with _ | b11
      · have h := h.1 c12
        refine j_rfN rfl ?_
        refine j_astoreN E 4 [(4, .null), (0, .ref v0), (2, .ref v2), (3, .int v3)] dX11_keep_68 (by decide) rfl ?_
        refine j_aloadN E dX11_keep_70 0 rfl ?_
        refine j_ifnullN E 82 dX11_keep_72 (by decide) ?_
        refine j_sub [1, 2, 3] rfl ?_
        exact m_X11_keep_b82 E hZ K55 hK55 v0 v2 v3 I6 L7 kv0 kv2 h
      · have h := h.2 b11 c12
        have kb11 := zr10 b11 c12
        refine j_rfS rfl ?_
        refine j_astore E 4 [(4, .ref b11), (0, .ref v0), (2, .ref v2), (3, .int v3)] dX11_keep_68 (by decide) rfl ?_
        refine j_aload E dX11_keep_70 0 rfl ?_
        refine j_ifnull E dX11_keep_72 ?_
        refine j_aload_n E dX11_keep_75 2 rfl ?_
        refine j_iload_n E dX11_keep_76 3 rfl ?_
        refine j_aload E dX11_keep_77 0 rfl ?_
        refine j_callV E [.int v3, .ref b11] [] (c_X2_putPilgrim (gL G) (gD G) (gY G) v2 v3 b11 Z I6 L7 _ hZ kv2 kb11 h) (gwV W_666 W_667 W_668 W_665 W_664) rfl ⟨rfl, fy_X2_putPilgrim⟩ ⟨by decide, by decide⟩ (c := 2) rfl (by decide) kv2 rfl rfl (Nat.le_of_ble_eq_true rfl) ⟨Nat.zero_le _, Nat.zero_le _⟩ dX11_keep_79 (fun v13 Z14 I15 L16 q17 => ?_)
        obtain ⟨rfl, rfl, h⟩ := q17
        show jJ G 5 82 [(4, .ref b11), (0, .ref v0), (2, .ref v2), (3, .int v3)] [] Z I15 L16 0 0
        refine j_sub [1, 2, 3] rfl ?_
        exact m_X11_keep_b82 E hZ K55 hK55 v0 v2 v3 I15 L16 kv0 kv2 h
set_option maxRecDepth 100000 in
def f_X11_keep (v0 : Nat) (v1 : Int32) (Z : jZ) (I : jI) (L : jL) (Q : Int32 → jI → jL → Prop) : Prop := ((v1 < 0 → Q (0 : Int32) I L) ∧ (¬ (v1 < 0) → (∀ b20 : Nat, jr Z v0 8 = some b20 → ((v1 < (2 : Int32) → (∀ b22 : Nat, jr Z v0 8 = some b22 → (vp_in v1 2 ∧ (∀ b24 : Nat, jr Z b22 v1.toNatClampNeg = some b24 → (∀ b25 : Nat, jr Z v0 2 = some b25 → (f_X2_putStairs b24 b25 Z I L (fun I28 L29 => (∀ b32 : Nat, jr Z v0 5 = some b32 → (∀ b33 : Nat, jr Z b24 3 = some b33 → ((¬ (0 : Int32) < 0 ∧ ¬ (0 : Int32) < 0 ∧ ¬ (8 : Int32) < 0 ∧ (0 : Int32).toNatClampNeg + (8 : Int32).toNatClampNeg ≤ 8 ∧ (0 : Int32).toNatClampNeg + (8 : Int32).toNatClampNeg ≤ 8) ∧ (∀ I35 : jI, I35 = va_up I28 b33 (va_cpy (I28 b32) (I28 b33) (0 : Int32).toNatClampNeg (0 : Int32).toNatClampNeg (8 : Int32).toNatClampNeg) → (∀ I36 : jI, I36 = jpI I35 b24 7 (I35 v0 4) → (∃ m55 : Nat, f_X11_keep_L55  Z Q m55 v0 b24 (0 : Int32) I36 L29))))))))))))) ∧ (¬ (v1 < (2 : Int32)) → Q (0 : Int32) I L)))))
set_option maxHeartbeats 4000000 in
set_option maxRecDepth 100000 in
theorem c_X11_keep (l : Launch) (D : va_G) (cy : jC) (v0 : Nat) (v1 : Int32) (Z : jZ) (I : jI) (L : jL) (Q : Int32 → jI → jL → Prop) (hZ : SH Z) (kv0 : jk Z v0 11) (h : f_X11_keep v0 v1 Z I L Q) : jCt l yX11_keep w_X11_keep { frames := 2, cells := 0, slots := 0, locals := 69 } D cy [.ref v0, .int v1] Z I L (rtZ Z Q) := by
  refine jCt_of (cc := cX11_keep) (maxL := 5) (ret := (some .boolean)) (by decide +kernel) rfl (Nat.le_of_ble_eq_true rfl) ?_
  intro G eD eY eL E
  subst eD; subst eY; subst eL
  have E : jE G cX11_keep RX11 w_X11_keep 5 (some .boolean) { frames := 2, cells := 0, slots := 0, locals := 69 } (rtZ Z Q) := E
  show jJ G 5 0 [(0, .ref v0), (1, .int v1)] [] Z I L 0 0
  refine j_iload_n E dX11_keep_0 1 rfl ?_
  refine j_if_lt E 13 dX11_keep_1 (by decide) (fun c19 => ?_) (fun c19 => ?_)
  · have h := h.1 c19
    refine j_iconst E (v := 0) dX11_keep_13 (by decide) ?_
    exact j_zreturn E (Or.inl rfl) ⟨rfl, _, rfl, (Or.inl rfl), h⟩ (Nat.zero_le _) (Nat.zero_le _) dX11_keep_14
  · have h := h.2 c19
    refine j_iload_n E dX11_keep_4 1 rfl ?_
    refine j_aload_n E dX11_keep_5 0 rfl ?_
    obtain ⟨b20, eb20, kb20, lb20⟩ := sh_f hZ kv0 (j := 8) (k := 17) (m := 2) rfl
    have h := h b20 eb20
    refine j_getr E 11 8 rfl rfl (by decide) (by decide) (iw iT_11) rfl rfl (tw W_433) kv0 eb20 dX11_keep_6 ?_
    refine j_alen17 E (v := 2) kb20 (by rw [lb20]; rfl) dX11_keep_9 ?_
    refine j_icmp_lt E 15 dX11_keep_10 (by decide) (fun c21 => ?_) (fun c21 => ?_)
    · have h := h.1 c21
      refine j_aload_n E dX11_keep_15 0 rfl ?_
      obtain ⟨b22, eb22, kb22, lb22⟩ := sh_f hZ kv0 (j := 8) (k := 17) (m := 2) rfl
      have h := h b22 eb22
      refine j_getr E 11 8 rfl rfl (by decide) (by decide) (iw iT_11) rfl rfl (tw W_433) kv0 eb22 dX11_keep_16 ?_
      refine j_iload_n E dX11_keep_19 1 rfl ?_
      obtain ⟨o23, h⟩ := h
      refine j_aald17 E kb22 (by rw [lb22]; exact o23) dX11_keep_20 ?_
      obtain ⟨b24, eb24, kb24⟩ := sh_k hZ kb22 (by rw [lb22]; exact o23)
      have h := h b24 eb24
      refine j_rfS eb24 ?_
      refine j_astore_n E 2 [(2, .ref b24), (0, .ref v0), (1, .int v1)] dX11_keep_21 rfl (by decide) rfl ?_
      refine j_aload_n E dX11_keep_22 0 rfl ?_
      refine j_aload_n E dX11_keep_23 1 rfl ?_
      obtain ⟨b25, eb25, kb25⟩ := sh_o hZ kv0 (j := 2) (k := 8) rfl
      have h := h b25 eb25
      refine j_getr E 11 2 rfl rfl (by decide) (by decide) (iw iT_11) rfl rfl (tw W_454) kv0 eb25 dX11_keep_24 ?_
      refine j_callV E [.ref b25] [] (c_X2_putStairs (gL G) (gD G) (gY G) b24 b25 Z I L _ hZ kb24 kb25 h) (gwV W_670 W_671 W_672 W_665 W_669) rfl ⟨rfl, fy_X2_putStairs⟩ ⟨by decide, by decide⟩ (c := 2) rfl (by decide) kb24 rfl rfl (Nat.le_of_ble_eq_true rfl) ⟨Nat.zero_le _, Nat.zero_le _⟩ dX11_keep_27 (fun v26 Z27 I28 L29 q30 => ?_)
      obtain ⟨rfl, rfl, h⟩ := q30
      show jJ G 5 30 [(2, .ref b24), (0, .ref v0), (1, .int v1)] [] Z I28 L29 0 0
      refine j_aload_n E dX11_keep_30 1 rfl ?_
      obtain ⟨b32, eb32, kb32, lb32⟩ := sh_f hZ kv0 (j := 5) (k := 14) (m := 8) rfl
      have h := h b32 eb32
      refine j_getr E 11 5 rfl rfl (by decide) (by decide) (iw iT_11) rfl rfl (tw W_434) kv0 eb32 dX11_keep_31 ?_
      refine j_iconst E (v := 0) dX11_keep_34 (by decide) ?_
      refine j_aload_n E dX11_keep_35 0 rfl ?_
      obtain ⟨b33, eb33, kb33, lb33⟩ := sh_f hZ kb24 (j := 3) (k := 14) (m := 8) rfl
      have h := h b33 eb33
      refine j_getrN E 2 3 rfl rfl (by decide) (by decide) (iw iT_2) rfl rfl (nw_2_3_X11_416) kb24 eb33 dX11_keep_36 ?_
      refine j_iconst E (v := 0) dX11_keep_39 (by decide) ?_
      refine j_bipush E (v := 8) dX11_keep_40 (by decide) ?_
      obtain ⟨o34, h⟩ := h
      refine j_copyi E (tw W_592) (tw W_11) (tw W_12) (tw W_13) kb32 kb33 o34.1 o34.2.1 o34.2.2.1 (by rw [lb32]; exact o34.2.2.2.1) (by rw [lb33]; exact o34.2.2.2.2) (Nat.le_of_ble_eq_true rfl) (Nat.le_of_ble_eq_true rfl) dX11_keep_42 ?_
      refine j_nmI (fun I35 eI35 => ?_)
      have h := h I35 eI35
      refine j_aload_n E dX11_keep_45 0 rfl ?_
      refine j_aload_n E dX11_keep_46 1 rfl ?_
      refine j_geti E 11 4 rfl rfl (by decide) (by decide) (iw iT_11) rfl rfl (tw W_431) kv0 dX11_keep_47 ?_
      refine j_putiN E 2 7 rfl rfl (by decide) (by decide) (iw iT_2) tyX2_ok nmX2 rfl rfl (nw_2_7_X11_419) rfl rfl rfl kb24 dX11_keep_50 ?_
      refine j_nmI (fun I36 eI36 => ?_)
      have h := h I36 eI36
      refine j_iconst E (v := 0) dX11_keep_53 (by decide) ?_
      refine j_istore_n E 3 [(3, .int (0 : Int32)), (2, .ref b24), (0, .ref v0), (1, .int v1)] dX11_keep_54 rfl (by decide) rfl ?_
      obtain ⟨n37, h⟩ := h
      refine j_sub [2, 1, 0] rfl ?_
      exact m_X11_keep_L55 E hZ  n37 v0 b24 (0 : Int32) I36 L29 kv0 kb24 h
    · have h := h.2 c21
      refine j_iconst E (v := 0) dX11_keep_13 (by decide) ?_
      exact j_zreturn E (Or.inl rfl) ⟨rfl, _, rfl, (Or.inl rfl), h⟩ (Nat.zero_le _) (Nat.zero_le _) dX11_keep_14
set_option maxRecDepth 100000 in
def f_X11_again_b94 (K59 : Nat → Nat → Int32 → jI → jL → Prop) (Z : jZ) (Q : Int32 → jI → jL → Prop) (v0 : Nat) (v2 : Nat) (v3 : Int32) (I : jI) (L : jL) : Prop := (∀ x1 : Int32, x1 = v3 + 1 → K59 v0 v2 x1 I L)
set_option maxHeartbeats 4000000 in
set_option maxRecDepth 100000 in
theorem m_X11_again_b94 {G : jG} {Z : jZ} {Q : Int32 → jI → jL → Prop} (E : jE G cX11_again RX11 w_X11_again 5 (some .boolean) { frames := 4, cells := 0, slots := 0, locals := 90 } (rtZ Z Q)) (hZ : SH Z) (K59 : Nat → Nat → Int32 → jI → jL → Prop) (hK59 : ∀ (v0 : Nat) (v2 : Nat) (v3 : Int32) (I : jI) (L : jL), jk Z v0 11 → jk Z v2 2 → K59 v0 v2 v3 I L → jJ G 5 59 [(0, .ref v0), (2, .ref v2), (3, .int v3)] [] Z I L 0 0) (v0 : Nat) (v2 : Nat) (v3 : Int32) (I : jI) (L : jL) (kv0 : jk Z v0 11) (kv2 : jk Z v2 2) (h : f_X11_again_b94 K59 Z Q v0 v2 v3 I L) : jJ G 5 94 [(0, .ref v0), (2, .ref v2), (3, .int v3)] [] Z I L 0 0 := by
  obtain ⟨x1, ex1⟩ : ∃ y : Int32, y = v3 + 1 := ⟨_, rfl⟩
  have h := h x1 ex1
  refine j_iinc E x1 [(3, .int x1), (0, .ref v0), (2, .ref v2)] dX11_again_94 2 rfl (by rw [ex1]; rfl) (by decide) rfl ?_
  refine j_goto E 59 dX11_again_97 (by decide) ?_
  refine j_sub [1, 2, 0] rfl ?_
  exact hK59 v0 v2 x1 I L kv0 kv2 h
set_option maxRecDepth 100000 in
def f_X11_again_L59  (Z : jZ) (Q : Int32 → jI → jL → Prop) : Nat → Nat → Nat → Int32 → jI → jL → Prop
  | 0 => fun _ _ _ _ _ => False
  | n + 1 => fun v0 v2 v3 I L => (((I v2 7) ≤ v3 → Q (1 : Int32) I L) ∧ (¬ ((I v2 7) ≤ v3) → (((I v0 4) ≤ v3 → Q (1 : Int32) I L) ∧ (¬ ((I v0 4) ≤ v3) → (f_X11_find v0 v3 Z I L (fun r10 I6 L7 => ((r10 = none → f_X11_again_b94 (f_X11_again_L59 Z Q n) Z Q v0 v2 v3 I6 L7) ∧ (∀ b11 : Nat, r10 = some b11 → (f_X2_getPilgrim v2 v3 b11 Z I6 L7 (fun I15 L16 => f_X11_again_b94 (f_X11_again_L59 Z Q n) Z Q v0 v2 v3 I15 L16))))))))))
set_option maxHeartbeats 4000000 in
set_option maxRecDepth 100000 in
theorem m_X11_again_L59 {G : jG} {Z : jZ} {Q : Int32 → jI → jL → Prop} (E : jE G cX11_again RX11 w_X11_again 5 (some .boolean) { frames := 4, cells := 0, slots := 0, locals := 90 } (rtZ Z Q)) (hZ : SH Z)  : ∀ (n : Nat) (v0 : Nat) (v2 : Nat) (v3 : Int32) (I : jI) (L : jL), jk Z v0 11 → jk Z v2 2 → f_X11_again_L59  Z Q n v0 v2 v3 I L → jJ G 5 59 [(0, .ref v0), (2, .ref v2), (3, .int v3)] [] Z I L 0 0 := by
  intro n
  induction n with
  | zero => intro v0 v2 v3 I L _ _ h; exact h.elim
  | succ n ih =>
    intro v0 v2 v3 I L kv0 kv2 h
    have h : (((I v2 7) ≤ v3 → Q (1 : Int32) I L) ∧ (¬ ((I v2 7) ≤ v3) → (((I v0 4) ≤ v3 → Q (1 : Int32) I L) ∧ (¬ ((I v0 4) ≤ v3) → (f_X11_find v0 v3 Z I L (fun r10 I6 L7 => ((r10 = none → f_X11_again_b94 (f_X11_again_L59 Z Q n) Z Q v0 v2 v3 I6 L7) ∧ (∀ b11 : Nat, r10 = some b11 → (f_X2_getPilgrim v2 v3 b11 Z I6 L7 (fun I15 L16 => f_X11_again_b94 (f_X11_again_L59 Z Q n) Z Q v0 v2 v3 I15 L16)))))))))) := h
    obtain ⟨K59, eK59⟩ : ∃ K : Nat → Nat → Int32 → jI → jL → Prop, K = f_X11_again_L59  Z Q n := ⟨_, rfl⟩
    have hK59 := ih
    clear eK59 K59
    generalize f_X11_again_L59  Z Q n = K59 at hK59 h
    refine j_iload_n E dX11_again_59 2 rfl ?_
    refine j_aload_n E dX11_again_60 1 rfl ?_
    refine j_getiN E 2 7 rfl rfl (by decide) (by decide) (iw iT_2) rfl rfl (nw_2_7_X11_419) kv2 dX11_again_61 ?_
    refine j_icmp_ge E 100 dX11_again_64 (by decide) (fun c2 => ?_) (fun c2 => ?_)
    · have h := h.1 c2
      refine j_iconst E (v := 1) dX11_again_100 (by decide) ?_
      exact j_zreturn E (Or.inr rfl) ⟨rfl, _, rfl, (Or.inr rfl), h⟩ (Nat.zero_le _) (Nat.zero_le _) dX11_again_101
    · have h := h.2 c2
      refine j_iload_n E dX11_again_67 2 rfl ?_
      refine j_aload_n E dX11_again_68 0 rfl ?_
      refine j_geti E 11 4 rfl rfl (by decide) (by decide) (iw iT_11) rfl rfl (tw W_431) kv0 dX11_again_69 ?_
      refine j_icmp_ge E 100 dX11_again_72 (by decide) (fun c3 => ?_) (fun c3 => ?_)
      · have h := h.1 c3
        refine j_iconst E (v := 1) dX11_again_100 (by decide) ?_
        exact j_zreturn E (Or.inr rfl) ⟨rfl, _, rfl, (Or.inr rfl), h⟩ (Nat.zero_le _) (Nat.zero_le _) dX11_again_101
      · have h := h.2 c3
        refine j_aload_n E dX11_again_75 0 rfl ?_
        refine j_iload_n E dX11_again_76 2 rfl ?_
        refine j_callV E [.int v3] [] (c_X11_find (gL G) (gD G) (gY G) v0 v3 Z I L _ hZ kv0 h) (gwV W_437 W_438 W_439 W_40 W_436) rfl ⟨rfl, fy_X11_find⟩ ⟨by decide, by decide⟩ (c := 11) rfl (by decide) kv0 rfl rfl (Nat.le_of_ble_eq_true rfl) ⟨Nat.zero_le _, Nat.zero_le _⟩ dX11_again_77 (fun v4 Z5 I6 L7 q8 => ?_)
        obtain ⟨rfl, r10, rfl, zr10, h⟩ := q8
        show jJ G 5 80 [(0, .ref v0), (2, .ref v2), (3, .int v3)] (va_rf r10 :: []) Z I6 L7 0 0
        rcases c12 : r10 with _ | b11
        · have h := h.1 c12
          refine j_rfN rfl ?_
          refine j_astoreN E 4 [(4, .null), (0, .ref v0), (2, .ref v2), (3, .int v3)] dX11_again_80 (by decide) rfl ?_
          refine j_aloadN E dX11_again_82 0 rfl ?_
          refine j_ifnullN E 94 dX11_again_84 (by decide) ?_
          refine j_sub [1, 2, 3] rfl ?_
          exact m_X11_again_b94 E hZ K59 hK59 v0 v2 v3 I6 L7 kv0 kv2 h
        · have h := h.2 b11 c12
          have kb11 := zr10 b11 c12
          refine j_rfS rfl ?_
          refine j_astore E 4 [(4, .ref b11), (0, .ref v0), (2, .ref v2), (3, .int v3)] dX11_again_80 (by decide) rfl ?_
          refine j_aload E dX11_again_82 0 rfl ?_
          refine j_ifnull E dX11_again_84 ?_
          refine j_aload_n E dX11_again_87 2 rfl ?_
          refine j_iload_n E dX11_again_88 3 rfl ?_
          refine j_aload E dX11_again_89 0 rfl ?_
          refine j_callV E [.int v3, .ref b11] [] (c_X2_getPilgrim (gL G) (gD G) (gY G) v2 v3 b11 Z I6 L7 _ hZ kv2 kb11 h) (gwV W_674 W_675 W_676 W_665 W_673) rfl ⟨rfl, fy_X2_getPilgrim⟩ ⟨by decide, by decide⟩ (c := 2) rfl (by decide) kv2 rfl rfl (Nat.le_of_ble_eq_true rfl) ⟨Nat.zero_le _, Nat.zero_le _⟩ dX11_again_91 (fun v13 Z14 I15 L16 q17 => ?_)
          obtain ⟨rfl, rfl, h⟩ := q17
          show jJ G 5 94 [(4, .ref b11), (0, .ref v0), (2, .ref v2), (3, .int v3)] [] Z I15 L16 0 0
          refine j_sub [1, 2, 3] rfl ?_
          exact m_X11_again_b94 E hZ K59 hK59 v0 v2 v3 I15 L16 kv0 kv2 h
set_option maxRecDepth 100000 in
def f_X11_again (v0 : Nat) (v1 : Int32) (Z : jZ) (I : jI) (L : jL) (Q : Int32 → jI → jL → Prop) : Prop := ((v1 < 0 → Q (0 : Int32) I L) ∧ (¬ (v1 < 0) → (∀ b20 : Nat, jr Z v0 8 = some b20 → (((2 : Int32) ≤ v1 → Q (0 : Int32) I L) ∧ (¬ ((2 : Int32) ≤ v1) → (∀ b22 : Nat, jr Z v0 8 = some b22 → (vp_in v1 2 ∧ (∀ b24 : Nat, jr Z b22 v1.toNatClampNeg = some b24 → ((¬ (I b24 8) = 0 → (∀ b26 : Nat, jr Z v0 8 = some b26 → (vp_in v1 2 ∧ (∀ b28 : Nat, jr Z b26 v1.toNatClampNeg = some b28 → (∀ b29 : Nat, jr Z v0 2 = some b29 → (f_X2_getStairs b28 b29 Z I L (fun I32 L33 => (∀ b36 : Nat, jr Z b28 3 = some b36 → (∀ b37 : Nat, jr Z v0 5 = some b37 → ((¬ (0 : Int32) < 0 ∧ ¬ (0 : Int32) < 0 ∧ ¬ (8 : Int32) < 0 ∧ (0 : Int32).toNatClampNeg + (8 : Int32).toNatClampNeg ≤ 8 ∧ (0 : Int32).toNatClampNeg + (8 : Int32).toNatClampNeg ≤ 8) ∧ (∀ I39 : jI, I39 = va_up I32 b37 (va_cpy (I32 b36) (I32 b37) (0 : Int32).toNatClampNeg (0 : Int32).toNatClampNeg (8 : Int32).toNatClampNeg) → (∃ m59 : Nat, f_X11_again_L59  Z Q m59 v0 b28 (0 : Int32) I39 L33)))))))))))) ∧ ((I b24 8) = 0 → Q (0 : Int32) I L))))))))))
set_option maxHeartbeats 4000000 in
set_option maxRecDepth 100000 in
theorem c_X11_again (l : Launch) (D : va_G) (cy : jC) (v0 : Nat) (v1 : Int32) (Z : jZ) (I : jI) (L : jL) (Q : Int32 → jI → jL → Prop) (hZ : SH Z) (kv0 : jk Z v0 11) (h : f_X11_again v0 v1 Z I L Q) : jCt l yX11_again w_X11_again { frames := 4, cells := 0, slots := 0, locals := 90 } D cy [.ref v0, .int v1] Z I L (rtZ Z Q) := by
  refine jCt_of (cc := cX11_again) (maxL := 5) (ret := (some .boolean)) (by decide +kernel) rfl (Nat.le_of_ble_eq_true rfl) ?_
  intro G eD eY eL E
  subst eD; subst eY; subst eL
  have E : jE G cX11_again RX11 w_X11_again 5 (some .boolean) { frames := 4, cells := 0, slots := 0, locals := 90 } (rtZ Z Q) := E
  show jJ G 5 0 [(0, .ref v0), (1, .int v1)] [] Z I L 0 0
  refine j_iload_n E dX11_again_0 1 rfl ?_
  refine j_if_lt E 25 dX11_again_1 (by decide) (fun c19 => ?_) (fun c19 => ?_)
  · have h := h.1 c19
    refine j_iconst E (v := 0) dX11_again_25 (by decide) ?_
    exact j_zreturn E (Or.inl rfl) ⟨rfl, _, rfl, (Or.inl rfl), h⟩ (Nat.zero_le _) (Nat.zero_le _) dX11_again_26
  · have h := h.2 c19
    refine j_iload_n E dX11_again_4 1 rfl ?_
    refine j_aload_n E dX11_again_5 0 rfl ?_
    obtain ⟨b20, eb20, kb20, lb20⟩ := sh_f hZ kv0 (j := 8) (k := 17) (m := 2) rfl
    have h := h b20 eb20
    refine j_getr E 11 8 rfl rfl (by decide) (by decide) (iw iT_11) rfl rfl (tw W_433) kv0 eb20 dX11_again_6 ?_
    refine j_alen17 E (v := 2) kb20 (by rw [lb20]; rfl) dX11_again_9 ?_
    refine j_icmp_ge E 25 dX11_again_10 (by decide) (fun c21 => ?_) (fun c21 => ?_)
    · have h := h.1 c21
      refine j_iconst E (v := 0) dX11_again_25 (by decide) ?_
      exact j_zreturn E (Or.inl rfl) ⟨rfl, _, rfl, (Or.inl rfl), h⟩ (Nat.zero_le _) (Nat.zero_le _) dX11_again_26
    · have h := h.2 c21
      refine j_aload_n E dX11_again_13 0 rfl ?_
      obtain ⟨b22, eb22, kb22, lb22⟩ := sh_f hZ kv0 (j := 8) (k := 17) (m := 2) rfl
      have h := h b22 eb22
      refine j_getr E 11 8 rfl rfl (by decide) (by decide) (iw iT_11) rfl rfl (tw W_433) kv0 eb22 dX11_again_14 ?_
      refine j_iload_n E dX11_again_17 1 rfl ?_
      obtain ⟨o23, h⟩ := h
      refine j_aald17 E kb22 (by rw [lb22]; exact o23) dX11_again_18 ?_
      obtain ⟨b24, eb24, kb24⟩ := sh_k hZ kb22 (by rw [lb22]; exact o23)
      have h := h b24 eb24
      refine j_rfS eb24 ?_
      refine j_getiN E 2 8 rfl rfl (by decide) (by decide) (iw iT_2) rfl rfl (nw_2_8_X11_124) kb24 dX11_again_19 ?_
      refine j_if_ne E 27 dX11_again_22 (by decide) (fun c25 => ?_) (fun c25 => ?_)
      · have h := h.1 c25
        refine j_aload_n E dX11_again_27 0 rfl ?_
        obtain ⟨b26, eb26, kb26, lb26⟩ := sh_f hZ kv0 (j := 8) (k := 17) (m := 2) rfl
        have h := h b26 eb26
        refine j_getr E 11 8 rfl rfl (by decide) (by decide) (iw iT_11) rfl rfl (tw W_433) kv0 eb26 dX11_again_28 ?_
        refine j_iload_n E dX11_again_31 1 rfl ?_
        obtain ⟨o27, h⟩ := h
        refine j_aald17 E kb26 (by rw [lb26]; exact o27) dX11_again_32 ?_
        obtain ⟨b28, eb28, kb28⟩ := sh_k hZ kb26 (by rw [lb26]; exact o27)
        have h := h b28 eb28
        refine j_rfS eb28 ?_
        refine j_astore_n E 2 [(2, .ref b28), (0, .ref v0), (1, .int v1)] dX11_again_33 rfl (by decide) rfl ?_
        refine j_aload_n E dX11_again_34 0 rfl ?_
        refine j_aload_n E dX11_again_35 1 rfl ?_
        obtain ⟨b29, eb29, kb29⟩ := sh_o hZ kv0 (j := 2) (k := 8) rfl
        have h := h b29 eb29
        refine j_getr E 11 2 rfl rfl (by decide) (by decide) (iw iT_11) rfl rfl (tw W_454) kv0 eb29 dX11_again_36 ?_
        refine j_callV E [.ref b29] [] (c_X2_getStairs (gL G) (gD G) (gY G) b28 b29 Z I L _ hZ kb28 kb29 h) (gwV W_678 W_679 W_680 W_665 W_677) rfl ⟨rfl, fy_X2_getStairs⟩ ⟨by decide, by decide⟩ (c := 2) rfl (by decide) kb28 rfl rfl (Nat.le_of_ble_eq_true rfl) ⟨Nat.zero_le _, Nat.zero_le _⟩ dX11_again_39 (fun v30 Z31 I32 L33 q34 => ?_)
        obtain ⟨rfl, rfl, h⟩ := q34
        show jJ G 5 42 [(2, .ref b28), (0, .ref v0), (1, .int v1)] [] Z I32 L33 0 0
        refine j_aload_n E dX11_again_42 0 rfl ?_
        obtain ⟨b36, eb36, kb36, lb36⟩ := sh_f hZ kb28 (j := 3) (k := 14) (m := 8) rfl
        have h := h b36 eb36
        refine j_getrN E 2 3 rfl rfl (by decide) (by decide) (iw iT_2) rfl rfl (nw_2_3_X11_416) kb28 eb36 dX11_again_43 ?_
        refine j_iconst E (v := 0) dX11_again_46 (by decide) ?_
        refine j_aload_n E dX11_again_47 1 rfl ?_
        obtain ⟨b37, eb37, kb37, lb37⟩ := sh_f hZ kv0 (j := 5) (k := 14) (m := 8) rfl
        have h := h b37 eb37
        refine j_getr E 11 5 rfl rfl (by decide) (by decide) (iw iT_11) rfl rfl (tw W_434) kv0 eb37 dX11_again_48 ?_
        refine j_iconst E (v := 0) dX11_again_51 (by decide) ?_
        refine j_bipush E (v := 8) dX11_again_52 (by decide) ?_
        obtain ⟨o38, h⟩ := h
        refine j_copyi E (tw W_592) (tw W_11) (tw W_12) (tw W_13) kb36 kb37 o38.1 o38.2.1 o38.2.2.1 (by rw [lb36]; exact o38.2.2.2.1) (by rw [lb37]; exact o38.2.2.2.2) (Nat.le_of_ble_eq_true rfl) (Nat.le_of_ble_eq_true rfl) dX11_again_54 ?_
        refine j_nmI (fun I39 eI39 => ?_)
        have h := h I39 eI39
        refine j_iconst E (v := 0) dX11_again_57 (by decide) ?_
        refine j_istore_n E 3 [(3, .int (0 : Int32)), (2, .ref b28), (0, .ref v0), (1, .int v1)] dX11_again_58 rfl (by decide) rfl ?_
        obtain ⟨n40, h⟩ := h
        refine j_sub [2, 1, 0] rfl ?_
        exact m_X11_again_L59 E hZ  n40 v0 b28 (0 : Int32) I39 L33 kv0 kb28 h
      · have h := h.2 c25
        refine j_iconst E (v := 0) dX11_again_25 (by decide) ?_
        exact j_zreturn E (Or.inl rfl) ⟨rfl, _, rfl, (Or.inl rfl), h⟩ (Nat.zero_le _) (Nat.zero_le _) dX11_again_26
set_option maxRecDepth 100000 in
def f_X11_sumOfPurses_L4  (Z : jZ) (Q : Int32 → jI → jL → Prop) : Nat → Nat → Int32 → Int32 → jI → jL → Prop
  | 0 => fun _ _ _ _ _ => False
  | n + 1 => fun v0 v1 v2 I L => (((8 : Int32) ≤ v2 → Q v1 I L) ∧ (¬ ((8 : Int32) ≤ v2) → (∀ b2 : Nat, jr Z v0 5 = some b2 → (vp_in v2 8 ∧ (∀ x4 : Int32, x4 = (v1 + (I b2 v2.toNatClampNeg)) → (∀ x5 : Int32, x5 = v2 + 1 → (f_X11_sumOfPurses_L4 Z Q n) v0 x4 x5 I L))))))
set_option maxHeartbeats 4000000 in
set_option maxRecDepth 100000 in
theorem m_X11_sumOfPurses_L4 {G : jG} {Z : jZ} {Q : Int32 → jI → jL → Prop} (E : jE G cX11_sumOfPurses RX11 w_X11_sumOfPurses 3 (some .int) { frames := 0, cells := 0, slots := 0, locals := 0 } (rtI Z Q)) (hZ : SH Z)  : ∀ (n : Nat) (v0 : Nat) (v1 : Int32) (v2 : Int32) (I : jI) (L : jL), jk Z v0 11 → f_X11_sumOfPurses_L4  Z Q n v0 v1 v2 I L → jJ G 3 4 [(0, .ref v0), (1, .int v1), (2, .int v2)] [] Z I L 0 0 := by
  intro n
  induction n with
  | zero => intro v0 v1 v2 I L _ h; exact h.elim
  | succ n ih =>
    intro v0 v1 v2 I L kv0 h
    have h : (((8 : Int32) ≤ v2 → Q v1 I L) ∧ (¬ ((8 : Int32) ≤ v2) → (∀ b2 : Nat, jr Z v0 5 = some b2 → (vp_in v2 8 ∧ (∀ x4 : Int32, x4 = (v1 + (I b2 v2.toNatClampNeg)) → (∀ x5 : Int32, x5 = v2 + 1 → (f_X11_sumOfPurses_L4 Z Q n) v0 x4 x5 I L)))))) := h
    obtain ⟨K4, eK4⟩ : ∃ K : Nat → Int32 → Int32 → jI → jL → Prop, K = f_X11_sumOfPurses_L4  Z Q n := ⟨_, rfl⟩
    have hK4 := ih
    clear eK4 K4
    generalize f_X11_sumOfPurses_L4  Z Q n = K4 at hK4 h
    refine j_iload_n E dX11_sumOfPurses_4 2 rfl ?_
    refine j_bipush E (v := 8) dX11_sumOfPurses_5 (by decide) ?_
    refine j_icmp_ge E 25 dX11_sumOfPurses_7 (by decide) (fun c1 => ?_) (fun c1 => ?_)
    · have h := h.1 c1
      refine j_iload_n E dX11_sumOfPurses_25 1 rfl ?_
      exact j_ireturn E ⟨rfl, _, rfl, h⟩ (Nat.zero_le _) (Nat.zero_le _) dX11_sumOfPurses_26
    · have h := h.2 c1
      refine j_iload_n E dX11_sumOfPurses_10 1 rfl ?_
      refine j_aload_n E dX11_sumOfPurses_11 0 rfl ?_
      obtain ⟨b2, eb2, kb2, lb2⟩ := sh_f hZ kv0 (j := 5) (k := 14) (m := 8) rfl
      have h := h b2 eb2
      refine j_getr E 11 5 rfl rfl (by decide) (by decide) (iw iT_11) rfl rfl (tw W_434) kv0 eb2 dX11_sumOfPurses_12 ?_
      refine j_iload_n E dX11_sumOfPurses_15 2 rfl ?_
      obtain ⟨o3, h⟩ := h
      refine j_iald E kb2 (by rw [lb2]; exact o3) dX11_sumOfPurses_16 ?_
      refine j_iadd E dX11_sumOfPurses_17 ?_
      refine j_topi (fun x4 ex4 => ?_)
      have h := h x4 ex4
      refine j_istore_n E 1 [(1, .int x4), (0, .ref v0), (2, .int v2)] dX11_sumOfPurses_18 rfl (by decide) rfl ?_
      obtain ⟨x5, ex5⟩ : ∃ y : Int32, y = v2 + 1 := ⟨_, rfl⟩
      have h := h x5 ex5
      refine j_iinc E x5 [(2, .int x5), (1, .int x4), (0, .ref v0)] dX11_sumOfPurses_19 2 rfl (by rw [ex5]; rfl) (by decide) rfl ?_
      refine j_goto E 4 dX11_sumOfPurses_22 (by decide) ?_
      refine j_sub [2, 1, 0] rfl ?_
      exact hK4 v0 x4 x5 I L kv0 h
set_option maxRecDepth 100000 in
def f_X11_sumOfPurses (v0 : Nat) (Z : jZ) (I : jI) (L : jL) (Q : Int32 → jI → jL → Prop) : Prop := (∃ m4 : Nat, f_X11_sumOfPurses_L4  Z Q m4 v0 (0 : Int32) (0 : Int32) I L)
set_option maxHeartbeats 4000000 in
set_option maxRecDepth 100000 in
theorem c_X11_sumOfPurses (l : Launch) (D : va_G) (cy : jC) (v0 : Nat) (Z : jZ) (I : jI) (L : jL) (Q : Int32 → jI → jL → Prop) (hZ : SH Z) (kv0 : jk Z v0 11) (h : f_X11_sumOfPurses v0 Z I L Q) : jCt l yX11_sumOfPurses w_X11_sumOfPurses { frames := 0, cells := 0, slots := 0, locals := 0 } D cy [.ref v0] Z I L (rtI Z Q) := by
  refine jCt_of (cc := cX11_sumOfPurses) (maxL := 3) (ret := (some .int)) (by decide +kernel) rfl (Nat.le_of_ble_eq_true rfl) ?_
  intro G eD eY eL E
  subst eD; subst eY; subst eL
  have E : jE G cX11_sumOfPurses RX11 w_X11_sumOfPurses 3 (some .int) { frames := 0, cells := 0, slots := 0, locals := 0 } (rtI Z Q) := E
  show jJ G 3 0 [(0, .ref v0)] [] Z I L 0 0
  refine j_iconst E (v := 0) dX11_sumOfPurses_0 (by decide) ?_
  refine j_istore_n E 1 [(1, .int (0 : Int32)), (0, .ref v0)] dX11_sumOfPurses_1 rfl (by decide) rfl ?_
  refine j_iconst E (v := 0) dX11_sumOfPurses_2 (by decide) ?_
  refine j_istore_n E 2 [(2, .int (0 : Int32)), (1, .int (0 : Int32)), (0, .ref v0)] dX11_sumOfPurses_3 rfl (by decide) rfl ?_
  obtain ⟨n6, h⟩ := h
  refine j_sub [2, 1, 0] rfl ?_
  exact m_X11_sumOfPurses_L4 E hZ  n6 v0 (0 : Int32) (0 : Int32) I L kv0 h
set_option maxRecDepth 100000 in
def f_X11_count_b97  (Z : jZ) (Q : Int32 → jI → jL → Prop) (s0 : Int32) (s1 : Int32) (I : jI) (L : jL) : Prop := Q (s0 + s1) I L
set_option maxHeartbeats 4000000 in
set_option maxRecDepth 100000 in
theorem m_X11_count_b97 {G : jG} {Z : jZ} {Q : Int32 → jI → jL → Prop} (E : jE G cX11_count RX11 w_X11_count 2 (some .int) { frames := 2, cells := 0, slots := 0, locals := 42 } (rtI Z Q)) (hZ : SH Z)  (s0 : Int32) (s1 : Int32) (I : jI) (L : jL)  (h : f_X11_count_b97  Z Q s0 s1 I L) : jJ G 2 97 [] [.int s1, .int s0] Z I L 0 0 := by
  refine j_iadd E dX11_count_97 ?_
  exact j_ireturn E ⟨rfl, _, rfl, h⟩ (Nat.zero_le _) (Nat.zero_le _) dX11_count_98
set_option maxRecDepth 100000 in
def f_X11_count_b79  (Z : jZ) (Q : Int32 → jI → jL → Prop) (v0 : Nat) (s0 : Int32) (I : jI) (L : jL) : Prop := (∀ b1 : Nat, jr Z v0 2 = some b1 → (∀ b2 : Nat, jr Z b1 7 = some b2 → (f_X3_isTold b2 Z I L (fun r9 I5 L6 => ((r9 = 0 → f_X11_count_b97  Z Q s0 (0 : Int32) I5 L6) ∧ (¬ (r9 = 0) → f_X11_count_b97  Z Q s0 (2 : Int32) I5 L6))))))
set_option maxHeartbeats 4000000 in
set_option maxRecDepth 100000 in
theorem m_X11_count_b79 {G : jG} {Z : jZ} {Q : Int32 → jI → jL → Prop} (E : jE G cX11_count RX11 w_X11_count 2 (some .int) { frames := 2, cells := 0, slots := 0, locals := 42 } (rtI Z Q)) (hZ : SH Z)  (v0 : Nat) (s0 : Int32) (I : jI) (L : jL) (kv0 : jk Z v0 11) (h : f_X11_count_b79  Z Q v0 s0 I L) : jJ G 2 79 [(0, .ref v0)] [.int s0] Z I L 0 0 := by
  refine j_aload_n E dX11_count_79 0 rfl ?_
  obtain ⟨b1, eb1, kb1⟩ := sh_o hZ kv0 (j := 2) (k := 8) rfl
  have h := h b1 eb1
  refine j_getr E 11 2 rfl rfl (by decide) (by decide) (iw iT_11) rfl rfl (tw W_454) kv0 eb1 dX11_count_80 ?_
  obtain ⟨b2, eb2, kb2⟩ := sh_o hZ kb1 (j := 7) (k := 3) rfl
  have h := h b2 eb2
  refine j_getrN E 8 7 rfl rfl (by decide) (by decide) (iw iT_8) rfl rfl (nw_8_7_X11_135) kb1 eb2 dX11_count_83 ?_
  refine j_callV E [] [.int s0] (c_X3_isTold (gL G) (gD G) (gY G) b2 Z I L _ hZ kb2 h) (gwV W_681 W_181 W_182 W_179 W_178) rfl ⟨rfl, fy_X3_isTold⟩ ⟨by decide, by decide⟩ (c := 3) rfl (by decide) kb2 rfl rfl (Nat.le_of_ble_eq_true rfl) ⟨Nat.zero_le _, Nat.zero_le _⟩ dX11_count_86 (fun v3 Z4 I5 L6 q7 => ?_)
  obtain ⟨rfl, r9, rfl, zr9, h⟩ := q7
  show jJ G 2 89 [(0, .ref v0)] [.int r9, .int s0] Z I5 L6 0 0
  refine j_if_eq E 96 dX11_count_89 (by decide) (fun c10 => ?_) (fun c10 => ?_)
  · have h := h.1 c10
    refine j_iconst E (v := 0) dX11_count_96 (by decide) ?_
    refine j_sub [] rfl ?_
    exact m_X11_count_b97 E hZ  s0 (0 : Int32) I5 L6  h
  · have h := h.2 c10
    refine j_iconst E (v := 2) dX11_count_92 (by decide) ?_
    refine j_goto E 97 dX11_count_93 (by decide) ?_
    refine j_sub [] rfl ?_
    exact m_X11_count_b97 E hZ  s0 (2 : Int32) I5 L6  h
set_option maxRecDepth 100000 in
def f_X11_count (v0 : Nat) (v1 : Int32) (Z : jZ) (I : jI) (L : jL) (Q : Int32 → jI → jL → Prop) : Prop := ((v1 = 0 → (∀ b12 : Nat, jr Z v0 2 = some b12 → Q (I b12 9) I L)) ∧ (¬ v1 = 0 → ((v1 = 1 → Q (I v0 4) I L) ∧ (¬ v1 = 1 → ((v1 = 2 → (∀ b15 : Nat, jr Z v0 2 = some b15 → (∀ b16 : Nat, jr Z b15 6 = some b16 → (f_X3_isTold b16 Z I L (fun r23 I19 L20 => ((r23 = 0 → f_X11_count_b79  Z Q v0 (0 : Int32) I19 L20) ∧ (¬ (r23 = 0) → f_X11_count_b79  Z Q v0 (1 : Int32) I19 L20))))))) ∧ (¬ v1 = 2 → ((v1 = 3 → (∀ b26 : Nat, jr Z v0 2 = some b26 → (∀ b27 : Nat, jr Z b26 4 = some b27 → Q (I b27 4) I L))) ∧ (¬ v1 = 3 → ((v1 = 4 → (f_X11_sumOfPurses v0 Z I L (fun r35 I31 L32 => Q r35 I31 L32))) ∧ (¬ v1 = 4 → ((v1 = 5 → (∀ b37 : Nat, jr Z v0 2 = some b37 → (f_X8_sumOfFeuds b37 Z I L (fun r44 I40 L41 => Q r44 I40 L41)))) ∧ (¬ v1 = 5 → ((v1 = 6 → Q (I v0 16) I L) ∧ (¬ v1 = 6 → ((v1 = 7 → (∀ b47 : Nat, jr Z v0 0 = some b47 → Q (I b47 1) I L)) ∧ (¬ v1 = 7 → Q (-1 : Int32) I L))))))))))))))))
set_option maxHeartbeats 4000000 in
set_option maxRecDepth 100000 in
theorem c_X11_count (l : Launch) (D : va_G) (cy : jC) (v0 : Nat) (v1 : Int32) (Z : jZ) (I : jI) (L : jL) (Q : Int32 → jI → jL → Prop) (hZ : SH Z) (kv0 : jk Z v0 11) (h : f_X11_count v0 v1 Z I L Q) : jCt l yX11_count w_X11_count { frames := 2, cells := 0, slots := 0, locals := 42 } D cy [.ref v0, .int v1] Z I L (rtI Z Q) := by
  refine jCt_of (cc := cX11_count) (maxL := 2) (ret := (some .int)) (by decide +kernel) rfl (Nat.le_of_ble_eq_true rfl) ?_
  intro G eD eY eL E
  subst eD; subst eY; subst eL
  have E : jE G cX11_count RX11 w_X11_count 2 (some .int) { frames := 2, cells := 0, slots := 0, locals := 42 } (rtI Z Q) := E
  show jJ G 2 0 [(0, .ref v0), (1, .int v1)] [] Z I L 0 0
  refine j_iload_n E dX11_count_0 1 rfl ?_
  by_cases c11 : v1 = 0
  · have h := h.1 c11
    refine j_tableIn E (47) 48 dX11_count_1 (by rw [c11]; decide) (by rw [c11]; decide) (by rw [c11]; rfl) (by decide) ?_
    refine j_aload_n E dX11_count_48 0 rfl ?_
    obtain ⟨b12, eb12, kb12⟩ := sh_o hZ kv0 (j := 2) (k := 8) rfl
    have h := h b12 eb12
    refine j_getr E 11 2 rfl rfl (by decide) (by decide) (iw iT_11) rfl rfl (tw W_454) kv0 eb12 dX11_count_49 ?_
    refine j_getiN E 8 9 rfl rfl (by decide) (by decide) (iw iT_8) rfl rfl (nw_8_9_X11_172) kb12 dX11_count_52 ?_
    exact j_ireturn E ⟨rfl, _, rfl, h⟩ (Nat.zero_le _) (Nat.zero_le _) dX11_count_55
  · have h := h.2 c11
    by_cases c13 : v1 = 1
    · have h := h.1 c13
      refine j_tableIn E (55) 56 dX11_count_1 (by rw [c13]; decide) (by rw [c13]; decide) (by rw [c13]; rfl) (by decide) ?_
      refine j_aload_n E dX11_count_56 0 rfl ?_
      refine j_geti E 11 4 rfl rfl (by decide) (by decide) (iw iT_11) rfl rfl (tw W_431) kv0 dX11_count_57 ?_
      exact j_ireturn E ⟨rfl, _, rfl, h⟩ (Nat.zero_le _) (Nat.zero_le _) dX11_count_60
    · have h := h.2 c13
      by_cases c14 : v1 = 2
      · have h := h.1 c14
        refine j_tableIn E (60) 61 dX11_count_1 (by rw [c14]; decide) (by rw [c14]; decide) (by rw [c14]; rfl) (by decide) ?_
        refine j_aload_n E dX11_count_61 0 rfl ?_
        obtain ⟨b15, eb15, kb15⟩ := sh_o hZ kv0 (j := 2) (k := 8) rfl
        have h := h b15 eb15
        refine j_getr E 11 2 rfl rfl (by decide) (by decide) (iw iT_11) rfl rfl (tw W_454) kv0 eb15 dX11_count_62 ?_
        obtain ⟨b16, eb16, kb16⟩ := sh_o hZ kb15 (j := 6) (k := 3) rfl
        have h := h b16 eb16
        refine j_getrN E 8 6 rfl rfl (by decide) (by decide) (iw iT_8) rfl rfl (nw_8_6_X11_128) kb15 eb16 dX11_count_65 ?_
        refine j_callV E [] [] (c_X3_isTold (gL G) (gD G) (gY G) b16 Z I L _ hZ kb16 h) (gwV W_681 W_181 W_182 W_179 W_178) rfl ⟨rfl, fy_X3_isTold⟩ ⟨by decide, by decide⟩ (c := 3) rfl (by decide) kb16 rfl rfl (Nat.le_of_ble_eq_true rfl) ⟨Nat.zero_le _, Nat.zero_le _⟩ dX11_count_68 (fun v17 Z18 I19 L20 q21 => ?_)
        obtain ⟨rfl, r23, rfl, zr23, h⟩ := q21
        show jJ G 2 71 [(0, .ref v0), (1, .int v1)] [.int r23] Z I19 L20 0 0
        refine j_if_eq E 78 dX11_count_71 (by decide) (fun c24 => ?_) (fun c24 => ?_)
        · have h := h.1 c24
          refine j_iconst E (v := 0) dX11_count_78 (by decide) ?_
          refine j_sub [0] rfl ?_
          exact m_X11_count_b79 E hZ  v0 (0 : Int32) I19 L20 kv0 h
        · have h := h.2 c24
          refine j_iconst E (v := 1) dX11_count_74 (by decide) ?_
          refine j_goto E 79 dX11_count_75 (by decide) ?_
          refine j_sub [0] rfl ?_
          exact m_X11_count_b79 E hZ  v0 (1 : Int32) I19 L20 kv0 h
      · have h := h.2 c14
        by_cases c25 : v1 = 3
        · have h := h.1 c25
          refine j_tableIn E (98) 99 dX11_count_1 (by rw [c25]; decide) (by rw [c25]; decide) (by rw [c25]; rfl) (by decide) ?_
          refine j_aload_n E dX11_count_99 0 rfl ?_
          obtain ⟨b26, eb26, kb26⟩ := sh_o hZ kv0 (j := 2) (k := 8) rfl
          have h := h b26 eb26
          refine j_getr E 11 2 rfl rfl (by decide) (by decide) (iw iT_11) rfl rfl (tw W_454) kv0 eb26 dX11_count_100 ?_
          obtain ⟨b27, eb27, kb27⟩ := sh_o hZ kb26 (j := 4) (k := 4) rfl
          have h := h b27 eb27
          refine j_getrN E 8 4 rfl rfl (by decide) (by decide) (iw iT_8) rfl rfl (nw_8_4_X11_160) kb26 eb27 dX11_count_103 ?_
          refine j_getiN E 4 4 rfl rfl (by decide) (by decide) (iw iT_4) rfl rfl (nw_4_4_X11_369) kb27 dX11_count_106 ?_
          exact j_ireturn E ⟨rfl, _, rfl, h⟩ (Nat.zero_le _) (Nat.zero_le _) dX11_count_109
        · have h := h.2 c25
          by_cases c28 : v1 = 4
          · have h := h.1 c28
            refine j_tableIn E (109) 110 dX11_count_1 (by rw [c28]; decide) (by rw [c28]; decide) (by rw [c28]; rfl) (by decide) ?_
            refine j_aload_n E dX11_count_110 0 rfl ?_
            refine j_callV E [] [] (c_X11_sumOfPurses (gL G) (gD G) (gY G) v0 Z I L _ hZ kv0 h) (gwV W_683 W_684 W_685 W_40 W_682) rfl ⟨rfl, fy_X11_sumOfPurses⟩ ⟨by decide, by decide⟩ (c := 11) rfl (by decide) kv0 rfl rfl (Nat.le_of_ble_eq_true rfl) ⟨Nat.zero_le _, Nat.zero_le _⟩ dX11_count_111 (fun v29 Z30 I31 L32 q33 => ?_)
            obtain ⟨rfl, r35, rfl, h⟩ := q33
            show jJ G 2 114 [(0, .ref v0), (1, .int v1)] [.int r35] Z I31 L32 0 0
            exact j_ireturn E ⟨rfl, _, rfl, h⟩ (Nat.zero_le _) (Nat.zero_le _) dX11_count_114
          · have h := h.2 c28
            by_cases c36 : v1 = 5
            · have h := h.1 c36
              refine j_tableIn E (114) 115 dX11_count_1 (by rw [c36]; decide) (by rw [c36]; decide) (by rw [c36]; rfl) (by decide) ?_
              refine j_aload_n E dX11_count_115 0 rfl ?_
              obtain ⟨b37, eb37, kb37⟩ := sh_o hZ kv0 (j := 2) (k := 8) rfl
              have h := h b37 eb37
              refine j_getr E 11 2 rfl rfl (by decide) (by decide) (iw iT_11) rfl rfl (tw W_454) kv0 eb37 dX11_count_116 ?_
              refine j_callV E [] [] (c_X8_sumOfFeuds (gL G) (gD G) (gY G) b37 Z I L _ hZ kb37 h) (gwV W_687 W_688 W_689 W_254 W_686) rfl ⟨rfl, fy_X8_sumOfFeuds⟩ ⟨by decide, by decide⟩ (c := 8) rfl (by decide) kb37 rfl rfl (Nat.le_of_ble_eq_true rfl) ⟨Nat.zero_le _, Nat.zero_le _⟩ dX11_count_119 (fun v38 Z39 I40 L41 q42 => ?_)
              obtain ⟨rfl, r44, rfl, h⟩ := q42
              show jJ G 2 122 [(0, .ref v0), (1, .int v1)] [.int r44] Z I40 L41 0 0
              exact j_ireturn E ⟨rfl, _, rfl, h⟩ (Nat.zero_le _) (Nat.zero_le _) dX11_count_122
            · have h := h.2 c36
              by_cases c45 : v1 = 6
              · have h := h.1 c45
                refine j_tableIn E (122) 123 dX11_count_1 (by rw [c45]; decide) (by rw [c45]; decide) (by rw [c45]; rfl) (by decide) ?_
                refine j_aload_n E dX11_count_123 0 rfl ?_
                refine j_geti E 11 16 rfl rfl (by decide) (by decide) (iw iT_11) rfl rfl (tw W_481) kv0 dX11_count_124 ?_
                exact j_ireturn E ⟨rfl, _, rfl, h⟩ (Nat.zero_le _) (Nat.zero_le _) dX11_count_127
              · have h := h.2 c45
                by_cases c46 : v1 = 7
                · have h := h.1 c46
                  refine j_tableIn E (127) 128 dX11_count_1 (by rw [c46]; decide) (by rw [c46]; decide) (by rw [c46]; rfl) (by decide) ?_
                  refine j_aload_n E dX11_count_128 0 rfl ?_
                  obtain ⟨b47, eb47, kb47⟩ := sh_o hZ kv0 (j := 0) (k := 10) rfl
                  have h := h b47 eb47
                  refine j_getr E 11 0 rfl rfl (by decide) (by decide) (iw iT_11) rfl rfl (tw W_422) kv0 eb47 dX11_count_129 ?_
                  refine j_getiN E 10 1 rfl rfl (by decide) (by decide) (iw iT_10) rfl rfl (nw_10_1_X11_94) kb47 dX11_count_132 ?_
                  exact j_ireturn E ⟨rfl, _, rfl, h⟩ (Nat.zero_le _) (Nat.zero_le _) dX11_count_135
                · have h := h.2 c46
                  refine j_tableOut E 136 dX11_count_1 (by have tc11 := lv_neT (k := 0) (a := 0) c11 rfl; have tc13 := lv_neT (k := 1) (a := 1) c13 rfl; have tc14 := lv_neT (k := 2) (a := 2) c14 rfl; have tc25 := lv_neT (k := 3) (a := 3) c25 rfl; have tc28 := lv_neT (k := 4) (a := 4) c28 rfl; have tc36 := lv_neT (k := 5) (a := 5) c36 rfl; have tc45 := lv_neT (k := 6) (a := 6) c45 rfl; have tc46 := lv_neT (k := 7) (a := 7) c46 rfl; omega) (by decide) ?_
                  refine j_iconst E (v := -1) dX11_count_136 (by decide) ?_
                  exact j_ireturn E ⟨rfl, _, rfl, h⟩ (Nat.zero_le _) (Nat.zero_le _) dX11_count_137
set_option maxRecDepth 100000 in
def f_X11_row (v0 : Nat) (v1 : Int32) (Z : jZ) (I : jI) (L : jL) (Q : Int64 → jI → jL → Prop) (QX : jI → jL → Prop) : Prop := ((v1 < 0 → QX I L) ∧ (¬ (v1 < 0) → (((I v0 16) ≤ v1 → QX I L) ∧ (¬ ((I v0 16) ≤ v1) → (∀ b3 : Nat, jr Z v0 15 = some b3 → ((v1 < (26 : Int32) → (∀ b5 : Nat, jr Z v0 15 = some b5 → (vp_in v1 26 ∧ Q (L b5 v1.toNatClampNeg) I L))) ∧ (¬ (v1 < (26 : Int32)) → QX I L)))))))
set_option maxHeartbeats 4000000 in
set_option maxRecDepth 100000 in
theorem c_X11_row (l : Launch) (hl0 : l.stackTraces = false) (D : va_G) (cy : jC) (v0 : Nat) (v1 : Int32) (Z : jZ) (I : jI) (L : jL) (Q : Int64 → jI → jL → Prop) (QX : jI → jL → Prop) (hZ : SH Z) (kv0 : jk Z v0 11) (h : f_X11_row v0 v1 Z I L Q QX) : jCtX l yX11_row w_X11_row { frames := 6, cells := 1, slots := 6, locals := 90 } D cy [.ref v0, .int v1] Z I L (rtL Z Q) (fun Z9 I9 L9 => Z = Z9 ∧ QX I9 L9) := by
  refine jCtX_of hl0 (cc := cX11_row) (maxL := 2) (ret := (some .long)) (by decide +kernel) rfl (Nat.le_of_ble_eq_true rfl) ?_
  intro G eD eY eL E EX
  subst eD; subst eY; subst eL
  have E : jE G cX11_row RX11 w_X11_row 2 (some .long) { frames := 6, cells := 1, slots := 6, locals := 90 } (rtL Z Q) := E
  show jJ G 2 0 [(0, .ref v0), (1, .int v1)] [] Z I L 0 0
  refine j_iload_n E dX11_row_0 1 rfl ?_
  refine j_if_lt E 21 dX11_row_1 (by decide) (fun c1 => ?_) (fun c1 => ?_)
  · have h := h.1 c1
    exact j_throw E EX (w := 7) (is := 439) (text := "no such number") (by decide) W_465 W_466 ⟨by decide, by decide⟩ rfl (by decide) (by decide) ⟨rfl, h⟩ dX11_row_21 dX11_row_24 (Or.inr ⟨dX11_row_25, rfl⟩) dX11_row_28 dX11_row_31
  · have h := h.2 c1
    refine j_iload_n E dX11_row_4 1 rfl ?_
    refine j_aload_n E dX11_row_5 0 rfl ?_
    refine j_geti E 11 16 rfl rfl (by decide) (by decide) (iw iT_11) rfl rfl (tw W_481) kv0 dX11_row_6 ?_
    refine j_icmp_ge E 21 dX11_row_9 (by decide) (fun c2 => ?_) (fun c2 => ?_)
    · have h := h.1 c2
      exact j_throw E EX (w := 7) (is := 439) (text := "no such number") (by decide) W_465 W_466 ⟨by decide, by decide⟩ rfl (by decide) (by decide) ⟨rfl, h⟩ dX11_row_21 dX11_row_24 (Or.inr ⟨dX11_row_25, rfl⟩) dX11_row_28 dX11_row_31
    · have h := h.2 c2
      refine j_iload_n E dX11_row_12 1 rfl ?_
      refine j_aload_n E dX11_row_13 0 rfl ?_
      obtain ⟨b3, eb3, kb3, lb3⟩ := sh_f hZ kv0 (j := 15) (k := 15) (m := 26) rfl
      have h := h b3 eb3
      refine j_getr E 11 15 rfl rfl (by decide) (by decide) (iw iT_11) rfl rfl (tw W_482) kv0 eb3 dX11_row_14 ?_
      refine j_alen15 E (v := 26) kb3 (by rw [lb3]; rfl) dX11_row_17 ?_
      refine j_icmp_lt E 32 dX11_row_18 (by decide) (fun c4 => ?_) (fun c4 => ?_)
      · have h := h.1 c4
        refine j_aload_n E dX11_row_32 0 rfl ?_
        obtain ⟨b5, eb5, kb5, lb5⟩ := sh_f hZ kv0 (j := 15) (k := 15) (m := 26) rfl
        have h := h b5 eb5
        refine j_getr E 11 15 rfl rfl (by decide) (by decide) (iw iT_11) rfl rfl (tw W_482) kv0 eb5 dX11_row_33 ?_
        refine j_iload_n E dX11_row_36 1 rfl ?_
        obtain ⟨o6, h⟩ := h
        refine j_lald E kb5 (by rw [lb5]; exact o6) dX11_row_37 ?_
        exact j_lreturn E ⟨rfl, _, rfl, h⟩ (Nat.zero_le _) (Nat.zero_le _) dX11_row_38
      · have h := h.2 c4
        exact j_throw E EX (w := 7) (is := 439) (text := "no such number") (by decide) W_465 W_466 ⟨by decide, by decide⟩ rfl (by decide) (by decide) ⟨rfl, h⟩ dX11_row_21 dX11_row_24 (Or.inr ⟨dX11_row_25, rfl⟩) dX11_row_28 dX11_row_31
set_option maxRecDepth 100000 in
def f_X12_thrown (v0 : Nat) (Z : jZ) (I : jI) (L : jL) (Q : Int32 → jI → jL → Prop) : Prop := Q (I v0 22) I L
set_option maxHeartbeats 4000000 in
set_option maxRecDepth 100000 in
theorem c_X12_thrown (l : Launch) (D : va_G) (cy : jC) (v0 : Nat) (Z : jZ) (I : jI) (L : jL) (Q : Int32 → jI → jL → Prop) (hZ : SH Z) (kv0 : jk Z v0 12) (h : f_X12_thrown v0 Z I L Q) : jCt l yX12_thrown w_X12_thrown { frames := 0, cells := 0, slots := 0, locals := 0 } D cy [.ref v0] Z I L (rtI Z Q) := by
  refine jCt_of (cc := cX12_thrown) (maxL := 1) (ret := (some .int)) (by decide +kernel) rfl (Nat.le_of_ble_eq_true rfl) ?_
  intro G eD eY eL E
  subst eD; subst eY; subst eL
  have E : jE G cX12_thrown RX12 w_X12_thrown 1 (some .int) { frames := 0, cells := 0, slots := 0, locals := 0 } (rtI Z Q) := E
  show jJ G 1 0 [(0, .ref v0)] [] Z I L 0 0
  refine j_aload_n E dX12_thrown_0 0 rfl ?_
  refine j_geti E 12 22 rfl rfl (by decide) (by decide) (iw iT_12) rfl rfl (tw W_690) kv0 dX12_thrown_1 ?_
  exact j_ireturn E ⟨rfl, _, rfl, h⟩ (Nat.zero_le _) (Nat.zero_le _) dX12_thrown_4
set_option maxRecDepth 100000 in
def f_X12_in (v0 : Int32) (v1 : Int32) (v2 : Int32) (Z : jZ) (I : jI) (L : jL) (Q : Int32 → jI → jL → Prop) : Prop := ((v0 < v1 → Q (0 : Int32) I L) ∧ (¬ (v0 < v1) → ((v2 < v0 → Q (0 : Int32) I L) ∧ (¬ (v2 < v0) → Q (1 : Int32) I L))))
set_option maxHeartbeats 4000000 in
set_option maxRecDepth 100000 in
theorem c_X12_in (l : Launch) (D : va_G) (cy : jC) (v0 : Int32) (v1 : Int32) (v2 : Int32) (Z : jZ) (I : jI) (L : jL) (Q : Int32 → jI → jL → Prop) (hZ : SH Z)  (h : f_X12_in v0 v1 v2 Z I L Q) : jCt l yX12_in w_X12_in { frames := 0, cells := 0, slots := 0, locals := 0 } D cy [.int v0, .int v1, .int v2] Z I L (rtZ Z Q) := by
  refine jCt_of (cc := cX12_in) (maxL := 3) (ret := (some .boolean)) (by decide +kernel) rfl (Nat.le_of_ble_eq_true rfl) ?_
  intro G eD eY eL E
  subst eD; subst eY; subst eL
  have E : jE G cX12_in RX12 w_X12_in 3 (some .boolean) { frames := 0, cells := 0, slots := 0, locals := 0 } (rtZ Z Q) := E
  show jJ G 3 0 [(0, .int v0), (1, .int v1), (2, .int v2)] [] Z I L 0 0
  refine j_iload_n E dX12_in_0 0 rfl ?_
  refine j_iload_n E dX12_in_1 1 rfl ?_
  refine j_icmp_lt E 14 dX12_in_2 (by decide) (fun c1 => ?_) (fun c1 => ?_)
  · have h := h.1 c1
    refine j_iconst E (v := 0) dX12_in_14 (by decide) ?_
    exact j_zreturn E (Or.inl rfl) ⟨rfl, _, rfl, (Or.inl rfl), h⟩ (Nat.zero_le _) (Nat.zero_le _) dX12_in_15
  · have h := h.2 c1
    refine j_iload_n E dX12_in_5 0 rfl ?_
    refine j_iload_n E dX12_in_6 2 rfl ?_
    refine j_icmp_gt E 14 dX12_in_7 (by decide) (fun c2 => ?_) (fun c2 => ?_)
    · have h := h.1 c2
      refine j_iconst E (v := 0) dX12_in_14 (by decide) ?_
      exact j_zreturn E (Or.inl rfl) ⟨rfl, _, rfl, (Or.inl rfl), h⟩ (Nat.zero_le _) (Nat.zero_le _) dX12_in_15
    · have h := h.2 c2
      refine j_iconst E (v := 1) dX12_in_10 (by decide) ?_
      refine j_goto E 15 dX12_in_11 (by decide) ?_
      exact j_zreturn E (Or.inr rfl) ⟨rfl, _, rfl, (Or.inr rfl), h⟩ (Nat.zero_le _) (Nat.zero_le _) dX12_in_15
set_option maxRecDepth 100000 in
def f_X12_has (v0 : Int32) (v1 : Int32) (Z : jZ) (I : jI) (L : jL) (Q : Int32 → jI → jL → Prop) : Prop := ((¬ ((v0 >>> (v1 &&& 31)) &&& (1 : Int32)) = (1 : Int32) → Q (0 : Int32) I L) ∧ (((v0 >>> (v1 &&& 31)) &&& (1 : Int32)) = (1 : Int32) → Q (1 : Int32) I L))
set_option maxHeartbeats 4000000 in
set_option maxRecDepth 100000 in
theorem c_X12_has (l : Launch) (D : va_G) (cy : jC) (v0 : Int32) (v1 : Int32) (Z : jZ) (I : jI) (L : jL) (Q : Int32 → jI → jL → Prop) (hZ : SH Z)  (h : f_X12_has v0 v1 Z I L Q) : jCt l yX12_has w_X12_has { frames := 0, cells := 0, slots := 0, locals := 0 } D cy [.int v0, .int v1] Z I L (rtZ Z Q) := by
  refine jCt_of (cc := cX12_has) (maxL := 2) (ret := (some .boolean)) (by decide +kernel) rfl (Nat.le_of_ble_eq_true rfl) ?_
  intro G eD eY eL E
  subst eD; subst eY; subst eL
  have E : jE G cX12_has RX12 w_X12_has 2 (some .boolean) { frames := 0, cells := 0, slots := 0, locals := 0 } (rtZ Z Q) := E
  show jJ G 2 0 [(0, .int v0), (1, .int v1)] [] Z I L 0 0
  refine j_iload_n E dX12_has_0 0 rfl ?_
  refine j_iload_n E dX12_has_1 1 rfl ?_
  refine j_ishr E dX12_has_2 ?_
  refine j_iconst E (v := 1) dX12_has_3 (by decide) ?_
  refine j_iand E dX12_has_4 ?_
  refine j_iconst E (v := 1) dX12_has_5 (by decide) ?_
  refine j_icmp_ne E 13 dX12_has_6 (by decide) (fun c1 => ?_) (fun c1 => ?_)
  · have h := h.1 c1
    refine j_iconst E (v := 0) dX12_has_13 (by decide) ?_
    exact j_zreturn E (Or.inl rfl) ⟨rfl, _, rfl, (Or.inl rfl), h⟩ (Nat.zero_le _) (Nat.zero_le _) dX12_has_14
  · have h := h.2 c1
    refine j_iconst E (v := 1) dX12_has_9 (by decide) ?_
    refine j_goto E 14 dX12_has_10 (by decide) ?_
    exact j_zreturn E (Or.inr rfl) ⟨rfl, _, rfl, (Or.inr rfl), h⟩ (Nat.zero_le _) (Nat.zero_le _) dX12_has_14
set_option maxRecDepth 100000 in
def f_X12_lost (v0 : Nat) (Z : jZ) (I : jI) (L : jL) (Q : Int32 → jI → jL → Prop) : Prop := (∀ I1 : jI, I1 = jpI I v0 22 (1 : Int32) → Q (0 : Int32) I1 L)
set_option maxHeartbeats 4000000 in
set_option maxRecDepth 100000 in
theorem c_X12_lost (l : Launch) (D : va_G) (cy : jC) (v0 : Nat) (Z : jZ) (I : jI) (L : jL) (Q : Int32 → jI → jL → Prop) (hZ : SH Z) (kv0 : jk Z v0 12) (h : f_X12_lost v0 Z I L Q) : jCt l yX12_lost w_X12_lost { frames := 0, cells := 0, slots := 0, locals := 0 } D cy [.ref v0] Z I L (rtI Z Q) := by
  refine jCt_of (cc := cX12_lost) (maxL := 1) (ret := (some .int)) (by decide +kernel) rfl (Nat.le_of_ble_eq_true rfl) ?_
  intro G eD eY eL E
  subst eD; subst eY; subst eL
  have E : jE G cX12_lost RX12 w_X12_lost 1 (some .int) { frames := 0, cells := 0, slots := 0, locals := 0 } (rtI Z Q) := E
  show jJ G 1 0 [(0, .ref v0)] [] Z I L 0 0
  refine j_aload_n E dX12_lost_0 0 rfl ?_
  refine j_iconst E (v := 1) dX12_lost_1 (by decide) ?_
  refine j_puti E 12 22 rfl rfl (by decide) (by decide) (iw iT_12) tyX12_ok nmX12 rfl rfl (tw W_690) rfl rfl rfl kv0 dX12_lost_2 ?_
  refine j_nmI (fun I1 eI1 => ?_)
  have h := h I1 eI1
  refine j_iconst E (v := 0) dX12_lost_5 (by decide) ?_
  exact j_ireturn E ⟨rfl, _, rfl, h⟩ (Nat.zero_le _) (Nat.zero_le _) dX12_lost_6
set_option maxRecDepth 100000 in
def f_X12_tell (v0 : Nat) (v1 : Int64) (Z : jZ) (I : jI) (L : jL) (Q : jI → jL → Prop) : Prop := (∀ b1 : Nat, jr Z v0 20 = some b1 → (vp_in (I v0 21) 40 ∧ (∀ L3 : jL, L3 = jpL L b1 (I v0 21).toNatClampNeg v1 → (∀ I4 : jI, I4 = jpI I v0 21 ((I v0 21) + (1 : Int32)) → Q I4 L3))))
set_option maxHeartbeats 4000000 in
set_option maxRecDepth 100000 in
theorem c_X12_tell (l : Launch) (D : va_G) (cy : jC) (v0 : Nat) (v1 : Int64) (Z : jZ) (I : jI) (L : jL) (Q : jI → jL → Prop) (hZ : SH Z) (kv0 : jk Z v0 12) (h : f_X12_tell v0 v1 Z I L Q) : jCt l yX12_tell w_X12_tell { frames := 0, cells := 0, slots := 0, locals := 0 } D cy [.ref v0, .long v1] Z I L (rtV Z Q) := by
  refine jCt_of (cc := cX12_tell) (maxL := 3) (ret := none) (by decide +kernel) rfl (Nat.le_of_ble_eq_true rfl) ?_
  intro G eD eY eL E
  subst eD; subst eY; subst eL
  have E : jE G cX12_tell RX12 w_X12_tell 3 none { frames := 0, cells := 0, slots := 0, locals := 0 } (rtV Z Q) := E
  show jJ G 3 0 [(0, .ref v0), (1, .long v1)] [] Z I L 0 0
  refine j_aload_n E dX12_tell_0 0 rfl ?_
  obtain ⟨b1, eb1, kb1, lb1⟩ := sh_f hZ kv0 (j := 20) (k := 15) (m := 40) rfl
  have h := h b1 eb1
  refine j_getr E 12 20 rfl rfl (by decide) (by decide) (iw iT_12) rfl rfl (tw W_691) kv0 eb1 dX12_tell_1 ?_
  refine j_aload_n E dX12_tell_4 0 rfl ?_
  refine j_geti E 12 21 rfl rfl (by decide) (by decide) (iw iT_12) rfl rfl (tw W_692) kv0 dX12_tell_5 ?_
  refine j_lload_n E dX12_tell_8 1 rfl ?_
  obtain ⟨o2, h⟩ := h
  refine j_last E kb1 (by rw [lb1]; exact o2) dX12_tell_9 ?_
  refine j_nmL (fun L3 eL3 => ?_)
  have h := h L3 eL3
  refine j_aload_n E dX12_tell_10 0 rfl ?_
  refine j_dup E dX12_tell_11 rfl ?_
  refine j_geti E 12 21 rfl rfl (by decide) (by decide) (iw iT_12) rfl rfl (tw W_692) kv0 dX12_tell_12 ?_
  refine j_iconst E (v := 1) dX12_tell_15 (by decide) ?_
  refine j_iadd E dX12_tell_16 ?_
  refine j_puti E 12 21 rfl rfl (by decide) (by decide) (iw iT_12) tyX12_ok nmX12 rfl rfl (tw W_692) rfl rfl rfl kv0 dX12_tell_17 ?_
  refine j_nmI (fun I4 eI4 => ?_)
  have h := h I4 eI4
  exact j_return E ⟨rfl, rfl, h⟩ (Nat.zero_le _) (Nat.zero_le _) dX12_tell_20
set_option maxRecDepth 100000 in
def f_X12_isStep (v0 : Nat) (v1 : Int32) (Z : jZ) (I : jI) (L : jL) (Q : Int32 → jI → jL → Prop) : Prop := (f_X12_in v1 (0 : Int32) ((I v0 0) - (1 : Int32)) Z I L (fun r7 I3 L4 => Q r7 I3 L4))
set_option maxHeartbeats 4000000 in
set_option maxRecDepth 100000 in
theorem c_X12_isStep (l : Launch) (D : va_G) (cy : jC) (v0 : Nat) (v1 : Int32) (Z : jZ) (I : jI) (L : jL) (Q : Int32 → jI → jL → Prop) (hZ : SH Z) (kv0 : jk Z v0 12) (h : f_X12_isStep v0 v1 Z I L Q) : jCt l yX12_isStep w_X12_isStep { frames := 1, cells := 0, slots := 0, locals := 22 } D cy [.ref v0, .int v1] Z I L (rtZ Z Q) := by
  refine jCt_of (cc := cX12_isStep) (maxL := 2) (ret := (some .boolean)) (by decide +kernel) rfl (Nat.le_of_ble_eq_true rfl) ?_
  intro G eD eY eL E
  subst eD; subst eY; subst eL
  have E : jE G cX12_isStep RX12 w_X12_isStep 2 (some .boolean) { frames := 1, cells := 0, slots := 0, locals := 22 } (rtZ Z Q) := E
  show jJ G 2 0 [(0, .ref v0), (1, .int v1)] [] Z I L 0 0
  refine j_iload_n E dX12_isStep_0 1 rfl ?_
  refine j_iconst E (v := 0) dX12_isStep_1 (by decide) ?_
  refine j_aload_n E dX12_isStep_2 0 rfl ?_
  refine j_geti E 12 0 rfl rfl (by decide) (by decide) (iw iT_12) rfl rfl (tw W_693) kv0 dX12_isStep_3 ?_
  refine j_iconst E (v := 1) dX12_isStep_6 (by decide) ?_
  refine j_isub E dX12_isStep_7 ?_
  refine j_callS E [.int v1, .int (0 : Int32), .int ((I v0 0) - (1 : Int32))] [] (c_X12_in (gL G) (gD G) (gY G) v1 (0 : Int32) ((I v0 0) - (1 : Int32)) Z I L _ hZ  h) (gwS W_696 W_697 W_695 W_694) rfl fy_X12_in ⟨by decide, by decide⟩ rfl rfl (Nat.le_of_ble_eq_true rfl) ⟨Nat.zero_le _, Nat.zero_le _⟩ dX12_isStep_8 (fun v1 Z2 I3 L4 q5 => ?_)
  obtain ⟨rfl, r7, rfl, zr7, h⟩ := q5
  show jJ G 2 11 [(0, .ref v0), (1, .int v1)] [.int r7] Z I3 L4 0 0
  exact j_zreturn E zr7 ⟨rfl, _, rfl, zr7, h⟩ (Nat.zero_le _) (Nat.zero_le _) dX12_isStep_11
set_option maxRecDepth 100000 in
def f_X12_isFamily (v0 : Int32) (Z : jZ) (I : jI) (L : jL) (Q : Int32 → jI → jL → Prop) : Prop := (f_X12_in v0 (0 : Int32) (7 : Int32) Z I L (fun r7 I3 L4 => Q r7 I3 L4))
set_option maxHeartbeats 4000000 in
set_option maxRecDepth 100000 in
theorem c_X12_isFamily (l : Launch) (D : va_G) (cy : jC) (v0 : Int32) (Z : jZ) (I : jI) (L : jL) (Q : Int32 → jI → jL → Prop) (hZ : SH Z)  (h : f_X12_isFamily v0 Z I L Q) : jCt l yX12_isFamily w_X12_isFamily { frames := 1, cells := 0, slots := 0, locals := 22 } D cy [.int v0] Z I L (rtZ Z Q) := by
  refine jCt_of (cc := cX12_isFamily) (maxL := 1) (ret := (some .boolean)) (by decide +kernel) rfl (Nat.le_of_ble_eq_true rfl) ?_
  intro G eD eY eL E
  subst eD; subst eY; subst eL
  have E : jE G cX12_isFamily RX12 w_X12_isFamily 1 (some .boolean) { frames := 1, cells := 0, slots := 0, locals := 22 } (rtZ Z Q) := E
  show jJ G 1 0 [(0, .int v0)] [] Z I L 0 0
  refine j_iload_n E dX12_isFamily_0 0 rfl ?_
  refine j_iconst E (v := 0) dX12_isFamily_1 (by decide) ?_
  refine j_bipush E (v := 7) dX12_isFamily_2 (by decide) ?_
  refine j_callS E [.int v0, .int (0 : Int32), .int (7 : Int32)] [] (c_X12_in (gL G) (gD G) (gY G) v0 (0 : Int32) (7 : Int32) Z I L _ hZ  h) (gwS W_696 W_697 W_695 W_694) rfl fy_X12_in ⟨by decide, by decide⟩ rfl rfl (Nat.le_of_ble_eq_true rfl) ⟨Nat.zero_le _, Nat.zero_le _⟩ dX12_isFamily_4 (fun v1 Z2 I3 L4 q5 => ?_)
  obtain ⟨rfl, r7, rfl, zr7, h⟩ := q5
  show jJ G 1 7 [(0, .int v0)] [.int r7] Z I3 L4 0 0
  exact j_zreturn E zr7 ⟨rfl, _, rfl, zr7, h⟩ (Nat.zero_le _) (Nat.zero_le _) dX12_isFamily_7
set_option maxRecDepth 100000 in
def f_X12_isOne (v0 : Nat) (v1 : Int32) (Z : jZ) (I : jI) (L : jL) (Q : Int32 → jI → jL → Prop) : Prop := (f_X12_in v1 (0 : Int32) ((I v0 8) - (1 : Int32)) Z I L (fun r7 I3 L4 => Q r7 I3 L4))
set_option maxHeartbeats 4000000 in
set_option maxRecDepth 100000 in
theorem c_X12_isOne (l : Launch) (D : va_G) (cy : jC) (v0 : Nat) (v1 : Int32) (Z : jZ) (I : jI) (L : jL) (Q : Int32 → jI → jL → Prop) (hZ : SH Z) (kv0 : jk Z v0 12) (h : f_X12_isOne v0 v1 Z I L Q) : jCt l yX12_isOne w_X12_isOne { frames := 1, cells := 0, slots := 0, locals := 22 } D cy [.ref v0, .int v1] Z I L (rtZ Z Q) := by
  refine jCt_of (cc := cX12_isOne) (maxL := 2) (ret := (some .boolean)) (by decide +kernel) rfl (Nat.le_of_ble_eq_true rfl) ?_
  intro G eD eY eL E
  subst eD; subst eY; subst eL
  have E : jE G cX12_isOne RX12 w_X12_isOne 2 (some .boolean) { frames := 1, cells := 0, slots := 0, locals := 22 } (rtZ Z Q) := E
  show jJ G 2 0 [(0, .ref v0), (1, .int v1)] [] Z I L 0 0
  refine j_iload_n E dX12_isOne_0 1 rfl ?_
  refine j_iconst E (v := 0) dX12_isOne_1 (by decide) ?_
  refine j_aload_n E dX12_isOne_2 0 rfl ?_
  refine j_geti E 12 8 rfl rfl (by decide) (by decide) (iw iT_12) rfl rfl (tw W_698) kv0 dX12_isOne_3 ?_
  refine j_iconst E (v := 1) dX12_isOne_6 (by decide) ?_
  refine j_isub E dX12_isOne_7 ?_
  refine j_callS E [.int v1, .int (0 : Int32), .int ((I v0 8) - (1 : Int32))] [] (c_X12_in (gL G) (gD G) (gY G) v1 (0 : Int32) ((I v0 8) - (1 : Int32)) Z I L _ hZ  h) (gwS W_696 W_697 W_695 W_694) rfl fy_X12_in ⟨by decide, by decide⟩ rfl rfl (Nat.le_of_ble_eq_true rfl) ⟨Nat.zero_le _, Nat.zero_le _⟩ dX12_isOne_8 (fun v1 Z2 I3 L4 q5 => ?_)
  obtain ⟨rfl, r7, rfl, zr7, h⟩ := q5
  show jJ G 2 11 [(0, .ref v0), (1, .int v1)] [.int r7] Z I3 L4 0 0
  exact j_zreturn E zr7 ⟨rfl, _, rfl, zr7, h⟩ (Nat.zero_le _) (Nat.zero_le _) dX12_isOne_11
set_option maxRecDepth 100000 in
def f_X12_mainOf_b37 (K4 : Nat → Int32 → Int32 → Int32 → jI → jL → Prop) (Z : jZ) (Q : Int32 → jI → jL → Prop) (v0 : Nat) (v1 : Int32) (v2 : Int32) (v3 : Int32) (I : jI) (L : jL) : Prop := (∀ x1 : Int32, x1 = v3 + 1 → K4 v0 v1 v2 x1 I L)
set_option maxHeartbeats 4000000 in
set_option maxRecDepth 100000 in
theorem m_X12_mainOf_b37 {G : jG} {Z : jZ} {Q : Int32 → jI → jL → Prop} (E : jE G cX12_mainOf RX12 w_X12_mainOf 4 (some .int) { frames := 0, cells := 0, slots := 0, locals := 0 } (rtI Z Q)) (hZ : SH Z) (K4 : Nat → Int32 → Int32 → Int32 → jI → jL → Prop) (hK4 : ∀ (v0 : Nat) (v1 : Int32) (v2 : Int32) (v3 : Int32) (I : jI) (L : jL), jk Z v0 12 → K4 v0 v1 v2 v3 I L → jJ G 4 4 [(0, .ref v0), (1, .int v1), (2, .int v2), (3, .int v3)] [] Z I L 0 0) (v0 : Nat) (v1 : Int32) (v2 : Int32) (v3 : Int32) (I : jI) (L : jL) (kv0 : jk Z v0 12) (h : f_X12_mainOf_b37 K4 Z Q v0 v1 v2 v3 I L) : jJ G 4 37 [(0, .ref v0), (1, .int v1), (2, .int v2), (3, .int v3)] [] Z I L 0 0 := by
  obtain ⟨x1, ex1⟩ : ∃ y : Int32, y = v3 + 1 := ⟨_, rfl⟩
  have h := h x1 ex1
  refine j_iinc E x1 [(3, .int x1), (0, .ref v0), (1, .int v1), (2, .int v2)] dX12_mainOf_37 3 rfl (by rw [ex1]; rfl) (by decide) rfl ?_
  refine j_goto E 4 dX12_mainOf_40 (by decide) ?_
  refine j_sub [1, 2, 3, 0] rfl ?_
  exact hK4 v0 v1 v2 x1 I L kv0 h
set_option maxRecDepth 100000 in
def f_X12_mainOf_L4  (Z : jZ) (Q : Int32 → jI → jL → Prop) : Nat → Nat → Int32 → Int32 → Int32 → jI → jL → Prop
  | 0 => fun _ _ _ _ _ _ => False
  | n + 1 => fun v0 v1 v2 v3 I L => (((8 : Int32) ≤ v3 → Q v2 I L) ∧ (¬ ((8 : Int32) ≤ v3) → (∀ b3 : Nat, jr Z v0 5 = some b3 → (vp_in (((8 : Int32) * v1) + v3) 192 ∧ (∀ b5 : Nat, jr Z v0 5 = some b5 → (vp_in (((8 : Int32) * v1) + v2) 192 ∧ (((I b3 (((8 : Int32) * v1) + v3).toNatClampNeg) ≤ (I b5 (((8 : Int32) * v1) + v2).toNatClampNeg) → f_X12_mainOf_b37 (f_X12_mainOf_L4 Z Q n) Z Q v0 v1 v2 v3 I L) ∧ (¬ ((I b3 (((8 : Int32) * v1) + v3).toNatClampNeg) ≤ (I b5 (((8 : Int32) * v1) + v2).toNatClampNeg)) → f_X12_mainOf_b37 (f_X12_mainOf_L4 Z Q n) Z Q v0 v1 v3 v3 I L))))))))
set_option maxHeartbeats 4000000 in
set_option maxRecDepth 100000 in
theorem m_X12_mainOf_L4 {G : jG} {Z : jZ} {Q : Int32 → jI → jL → Prop} (E : jE G cX12_mainOf RX12 w_X12_mainOf 4 (some .int) { frames := 0, cells := 0, slots := 0, locals := 0 } (rtI Z Q)) (hZ : SH Z)  : ∀ (n : Nat) (v0 : Nat) (v1 : Int32) (v2 : Int32) (v3 : Int32) (I : jI) (L : jL), jk Z v0 12 → f_X12_mainOf_L4  Z Q n v0 v1 v2 v3 I L → jJ G 4 4 [(0, .ref v0), (1, .int v1), (2, .int v2), (3, .int v3)] [] Z I L 0 0 := by
  intro n
  induction n with
  | zero => intro v0 v1 v2 v3 I L _ h; exact h.elim
  | succ n ih =>
    intro v0 v1 v2 v3 I L kv0 h
    have h : (((8 : Int32) ≤ v3 → Q v2 I L) ∧ (¬ ((8 : Int32) ≤ v3) → (∀ b3 : Nat, jr Z v0 5 = some b3 → (vp_in (((8 : Int32) * v1) + v3) 192 ∧ (∀ b5 : Nat, jr Z v0 5 = some b5 → (vp_in (((8 : Int32) * v1) + v2) 192 ∧ (((I b3 (((8 : Int32) * v1) + v3).toNatClampNeg) ≤ (I b5 (((8 : Int32) * v1) + v2).toNatClampNeg) → f_X12_mainOf_b37 (f_X12_mainOf_L4 Z Q n) Z Q v0 v1 v2 v3 I L) ∧ (¬ ((I b3 (((8 : Int32) * v1) + v3).toNatClampNeg) ≤ (I b5 (((8 : Int32) * v1) + v2).toNatClampNeg)) → f_X12_mainOf_b37 (f_X12_mainOf_L4 Z Q n) Z Q v0 v1 v3 v3 I L)))))))) := h
    obtain ⟨K4, eK4⟩ : ∃ K : Nat → Int32 → Int32 → Int32 → jI → jL → Prop, K = f_X12_mainOf_L4  Z Q n := ⟨_, rfl⟩
    have hK4 := ih
    clear eK4 K4
    generalize f_X12_mainOf_L4  Z Q n = K4 at hK4 h
    refine j_iload_n E dX12_mainOf_4 3 rfl ?_
    refine j_bipush E (v := 8) dX12_mainOf_5 (by decide) ?_
    refine j_icmp_ge E 43 dX12_mainOf_7 (by decide) (fun c2 => ?_) (fun c2 => ?_)
    · have h := h.1 c2
      refine j_iload_n E dX12_mainOf_43 2 rfl ?_
      exact j_ireturn E ⟨rfl, _, rfl, h⟩ (Nat.zero_le _) (Nat.zero_le _) dX12_mainOf_44
    · have h := h.2 c2
      refine j_aload_n E dX12_mainOf_10 0 rfl ?_
      obtain ⟨b3, eb3, kb3, lb3⟩ := sh_f hZ kv0 (j := 5) (k := 14) (m := 192) rfl
      have h := h b3 eb3
      refine j_getr E 12 5 rfl rfl (by decide) (by decide) (iw iT_12) rfl rfl (tw W_699) kv0 eb3 dX12_mainOf_11 ?_
      refine j_bipush E (v := 8) dX12_mainOf_14 (by decide) ?_
      refine j_iload_n E dX12_mainOf_16 1 rfl ?_
      refine j_imul E dX12_mainOf_17 ?_
      refine j_iload_n E dX12_mainOf_18 3 rfl ?_
      refine j_iadd E dX12_mainOf_19 ?_
      obtain ⟨o4, h⟩ := h
      refine j_iald E kb3 (by rw [lb3]; exact o4) dX12_mainOf_20 ?_
      refine j_aload_n E dX12_mainOf_21 0 rfl ?_
      obtain ⟨b5, eb5, kb5, lb5⟩ := sh_f hZ kv0 (j := 5) (k := 14) (m := 192) rfl
      have h := h b5 eb5
      refine j_getr E 12 5 rfl rfl (by decide) (by decide) (iw iT_12) rfl rfl (tw W_699) kv0 eb5 dX12_mainOf_22 ?_
      refine j_bipush E (v := 8) dX12_mainOf_25 (by decide) ?_
      refine j_iload_n E dX12_mainOf_27 1 rfl ?_
      refine j_imul E dX12_mainOf_28 ?_
      refine j_iload_n E dX12_mainOf_29 2 rfl ?_
      refine j_iadd E dX12_mainOf_30 ?_
      obtain ⟨o6, h⟩ := h
      refine j_iald E kb5 (by rw [lb5]; exact o6) dX12_mainOf_31 ?_
      refine j_icmp_le E 37 dX12_mainOf_32 (by decide) (fun c7 => ?_) (fun c7 => ?_)
      · have h := h.1 c7
        refine j_sub [0, 1, 2, 3] rfl ?_
        exact m_X12_mainOf_b37 E hZ K4 hK4 v0 v1 v2 v3 I L kv0 h
      · have h := h.2 c7
        refine j_iload_n E dX12_mainOf_35 3 rfl ?_
        refine j_istore_n E 2 [(2, .int v3), (0, .ref v0), (1, .int v1), (3, .int v3)] dX12_mainOf_36 rfl (by decide) rfl ?_
        refine j_sub [1, 2, 0, 3] rfl ?_
        exact m_X12_mainOf_b37 E hZ K4 hK4 v0 v1 v3 v3 I L kv0 h
set_option maxRecDepth 100000 in
def f_X12_mainOf (v0 : Nat) (v1 : Int32) (Z : jZ) (I : jI) (L : jL) (Q : Int32 → jI → jL → Prop) : Prop := (∃ m4 : Nat, f_X12_mainOf_L4  Z Q m4 v0 v1 (0 : Int32) (1 : Int32) I L)
set_option maxHeartbeats 4000000 in
set_option maxRecDepth 100000 in
theorem c_X12_mainOf (l : Launch) (D : va_G) (cy : jC) (v0 : Nat) (v1 : Int32) (Z : jZ) (I : jI) (L : jL) (Q : Int32 → jI → jL → Prop) (hZ : SH Z) (kv0 : jk Z v0 12) (h : f_X12_mainOf v0 v1 Z I L Q) : jCt l yX12_mainOf w_X12_mainOf { frames := 0, cells := 0, slots := 0, locals := 0 } D cy [.ref v0, .int v1] Z I L (rtI Z Q) := by
  refine jCt_of (cc := cX12_mainOf) (maxL := 4) (ret := (some .int)) (by decide +kernel) rfl (Nat.le_of_ble_eq_true rfl) ?_
  intro G eD eY eL E
  subst eD; subst eY; subst eL
  have E : jE G cX12_mainOf RX12 w_X12_mainOf 4 (some .int) { frames := 0, cells := 0, slots := 0, locals := 0 } (rtI Z Q) := E
  show jJ G 4 0 [(0, .ref v0), (1, .int v1)] [] Z I L 0 0
  refine j_iconst E (v := 0) dX12_mainOf_0 (by decide) ?_
  refine j_istore_n E 2 [(2, .int (0 : Int32)), (0, .ref v0), (1, .int v1)] dX12_mainOf_1 rfl (by decide) rfl ?_
  refine j_iconst E (v := 1) dX12_mainOf_2 (by decide) ?_
  refine j_istore_n E 3 [(3, .int (1 : Int32)), (2, .int (0 : Int32)), (0, .ref v0), (1, .int v1)] dX12_mainOf_3 rfl (by decide) rfl ?_
  obtain ⟨n8, h⟩ := h
  refine j_sub [2, 3, 1, 0] rfl ?_
  exact m_X12_mainOf_L4 E hZ  n8 v0 v1 (0 : Int32) (1 : Int32) I L kv0 h
set_option maxRecDepth 100000 in
def f_X12_sign_L20  (Z : jZ) (Q : Int32 → jI → jL → Prop) : Nat → Nat → Int32 → Int32 → jI → jL → Prop
  | 0 => fun _ _ _ _ _ => False
  | n + 1 => fun v0 v1 v2 I L => ((v2 < 0 → Q (I v0 19) I L) ∧ (¬ (v2 < 0) → (∀ b2 : Nat, jr Z v0 18 = some b2 → (∀ I3 : jI, I3 = jpI I v0 19 ((I v0 19) + (1 : Int32)) → (vp_in (I v0 19) 80 ∧ (∀ I5 : jI, I5 = jpI I3 b2 (I v0 19).toNatClampNeg (vp_nar .byte ((v1 >>> (((8 : Int32) * v2) &&& 31)).toInt8.toInt32)) → (∀ x6 : Int32, x6 = v2 + (-1) → (f_X12_sign_L20 Z Q n) v0 v1 x6 I5 L)))))))
set_option maxHeartbeats 4000000 in
set_option maxRecDepth 100000 in
theorem m_X12_sign_L20 {G : jG} {Z : jZ} {Q : Int32 → jI → jL → Prop} (E : jE G cX12_sign RX12 w_X12_sign 3 (some .int) { frames := 0, cells := 0, slots := 0, locals := 0 } (rtI Z Q)) (hZ : SH Z)  : ∀ (n : Nat) (v0 : Nat) (v1 : Int32) (v2 : Int32) (I : jI) (L : jL), jk Z v0 12 → f_X12_sign_L20  Z Q n v0 v1 v2 I L → jJ G 3 20 [(0, .ref v0), (1, .int v1), (2, .int v2)] [] Z I L 0 0 := by
  intro n
  induction n with
  | zero => intro v0 v1 v2 I L _ h; exact h.elim
  | succ n ih =>
    intro v0 v1 v2 I L kv0 h
    have h : ((v2 < 0 → Q (I v0 19) I L) ∧ (¬ (v2 < 0) → (∀ b2 : Nat, jr Z v0 18 = some b2 → (∀ I3 : jI, I3 = jpI I v0 19 ((I v0 19) + (1 : Int32)) → (vp_in (I v0 19) 80 ∧ (∀ I5 : jI, I5 = jpI I3 b2 (I v0 19).toNatClampNeg (vp_nar .byte ((v1 >>> (((8 : Int32) * v2) &&& 31)).toInt8.toInt32)) → (∀ x6 : Int32, x6 = v2 + (-1) → (f_X12_sign_L20 Z Q n) v0 v1 x6 I5 L))))))) := h
    obtain ⟨K20, eK20⟩ : ∃ K : Nat → Int32 → Int32 → jI → jL → Prop, K = f_X12_sign_L20  Z Q n := ⟨_, rfl⟩
    have hK20 := ih
    clear eK20 K20
    generalize f_X12_sign_L20  Z Q n = K20 at hK20 h
    refine j_iload_n E dX12_sign_20 2 rfl ?_
    refine j_if_lt E 53 dX12_sign_21 (by decide) (fun c1 => ?_) (fun c1 => ?_)
    · have h := h.1 c1
      refine j_aload_n E dX12_sign_53 0 rfl ?_
      refine j_geti E 12 19 rfl rfl (by decide) (by decide) (iw iT_12) rfl rfl (tw W_700) kv0 dX12_sign_54 ?_
      exact j_ireturn E ⟨rfl, _, rfl, h⟩ (Nat.zero_le _) (Nat.zero_le _) dX12_sign_57
    · have h := h.2 c1
      refine j_aload_n E dX12_sign_24 0 rfl ?_
      obtain ⟨b2, eb2, kb2, lb2⟩ := sh_f hZ kv0 (j := 18) (k := 13) (m := 80) rfl
      have h := h b2 eb2
      refine j_getr E 12 18 rfl rfl (by decide) (by decide) (iw iT_12) rfl rfl (tw W_701) kv0 eb2 dX12_sign_25 ?_
      refine j_aload_n E dX12_sign_28 0 rfl ?_
      refine j_dup E dX12_sign_29 rfl ?_
      refine j_geti E 12 19 rfl rfl (by decide) (by decide) (iw iT_12) rfl rfl (tw W_700) kv0 dX12_sign_30 ?_
      refine j_dup_x1 E dX12_sign_33 rfl rfl ?_
      refine j_iconst E (v := 1) dX12_sign_34 (by decide) ?_
      refine j_iadd E dX12_sign_35 ?_
      refine j_puti E 12 19 rfl rfl (by decide) (by decide) (iw iT_12) tyX12_ok nmX12 rfl rfl (tw W_700) rfl rfl rfl kv0 dX12_sign_36 ?_
      refine j_nmI (fun I3 eI3 => ?_)
      have h := h I3 eI3
      refine j_iload_n E dX12_sign_39 1 rfl ?_
      refine j_bipush E (v := 8) dX12_sign_40 (by decide) ?_
      refine j_iload_n E dX12_sign_42 2 rfl ?_
      refine j_imul E dX12_sign_43 ?_
      refine j_ishr E dX12_sign_44 ?_
      refine j_i2b E dX12_sign_45 ?_
      obtain ⟨o4, h⟩ := h
      refine j_bast E kb2 (by rw [lb2]; exact o4) dX12_sign_46 ?_
      refine j_nmI (fun I5 eI5 => ?_)
      have h := h I5 eI5
      obtain ⟨x6, ex6⟩ : ∃ y : Int32, y = v2 + (-1) := ⟨_, rfl⟩
      have h := h x6 ex6
      refine j_iinc E x6 [(2, .int x6), (0, .ref v0), (1, .int v1)] dX12_sign_47 2 rfl (by rw [ex6]; rfl) (by decide) rfl ?_
      refine j_goto E 20 dX12_sign_50 (by decide) ?_
      refine j_sub [1, 2, 0] rfl ?_
      exact hK20 v0 v1 x6 I5 L kv0 h
set_option maxRecDepth 100000 in
def f_X12_sign (v0 : Nat) (v1 : Int32) (Z : jZ) (I : jI) (L : jL) (Q : Int32 → jI → jL → Prop) : Prop := (∀ I7 : jI, I7 = jpI I v0 22 (0 : Int32) → ((((I7 v0 19) + (4 : Int32)) ≤ (80 : Int32) → (∃ m20 : Nat, f_X12_sign_L20  Z Q m20 v0 v1 (3 : Int32) I7 L)) ∧ (¬ (((I7 v0 19) + (4 : Int32)) ≤ (80 : Int32)) → Q (-1 : Int32) I7 L)))
set_option maxHeartbeats 4000000 in
set_option maxRecDepth 100000 in
theorem c_X12_sign (l : Launch) (D : va_G) (cy : jC) (v0 : Nat) (v1 : Int32) (Z : jZ) (I : jI) (L : jL) (Q : Int32 → jI → jL → Prop) (hZ : SH Z) (kv0 : jk Z v0 12) (h : f_X12_sign v0 v1 Z I L Q) : jCt l yX12_sign w_X12_sign { frames := 0, cells := 0, slots := 0, locals := 0 } D cy [.ref v0, .int v1] Z I L (rtI Z Q) := by
  refine jCt_of (cc := cX12_sign) (maxL := 3) (ret := (some .int)) (by decide +kernel) rfl (Nat.le_of_ble_eq_true rfl) ?_
  intro G eD eY eL E
  subst eD; subst eY; subst eL
  have E : jE G cX12_sign RX12 w_X12_sign 3 (some .int) { frames := 0, cells := 0, slots := 0, locals := 0 } (rtI Z Q) := E
  show jJ G 3 0 [(0, .ref v0), (1, .int v1)] [] Z I L 0 0
  refine j_aload_n E dX12_sign_0 0 rfl ?_
  refine j_iconst E (v := 0) dX12_sign_1 (by decide) ?_
  refine j_puti E 12 22 rfl rfl (by decide) (by decide) (iw iT_12) tyX12_ok nmX12 rfl rfl (tw W_690) rfl rfl rfl kv0 dX12_sign_2 ?_
  refine j_nmI (fun I7 eI7 => ?_)
  have h := h I7 eI7
  refine j_aload_n E dX12_sign_5 0 rfl ?_
  refine j_geti E 12 19 rfl rfl (by decide) (by decide) (iw iT_12) rfl rfl (tw W_700) kv0 dX12_sign_6 ?_
  refine j_iconst E (v := 4) dX12_sign_9 (by decide) ?_
  refine j_iadd E dX12_sign_10 ?_
  refine j_bipush E (v := 80) dX12_sign_11 (by decide) ?_
  refine j_icmp_le E 18 dX12_sign_13 (by decide) (fun c8 => ?_) (fun c8 => ?_)
  · have h := h.1 c8
    refine j_iconst E (v := 3) dX12_sign_18 (by decide) ?_
    refine j_istore_n E 2 [(2, .int (3 : Int32)), (0, .ref v0), (1, .int v1)] dX12_sign_19 rfl (by decide) rfl ?_
    obtain ⟨n9, h⟩ := h
    refine j_sub [1, 2, 0] rfl ?_
    exact m_X12_sign_L20 E hZ  n9 v0 v1 (3 : Int32) I7 L kv0 h
  · have h := h.2 c8
    refine j_iconst E (v := -1) dX12_sign_16 (by decide) ?_
    exact j_ireturn E ⟨rfl, _, rfl, h⟩ (Nat.zero_le _) (Nat.zero_le _) dX12_sign_17
set_option maxRecDepth 100000 in
def f_X12_end (v0 : Nat) (v1 : Int32) (Z : jZ) (I : jI) (L : jL) (Q : Int32 → jI → jL → Prop) : Prop := (∀ I1 : jI, I1 = jpI I v0 22 (0 : Int32) → (f_X12_in v1 (0 : Int32) (I1 v0 19) Z I1 L (fun r8 I4 L5 => ((¬ r8 = 0 → (∀ I10 : jI, I10 = jpI I4 v0 19 v1 → Q (1 : Int32) I10 L5)) ∧ (r8 = 0 → Q (0 : Int32) I4 L5)))))
set_option maxHeartbeats 4000000 in
set_option maxRecDepth 100000 in
theorem c_X12_end (l : Launch) (D : va_G) (cy : jC) (v0 : Nat) (v1 : Int32) (Z : jZ) (I : jI) (L : jL) (Q : Int32 → jI → jL → Prop) (hZ : SH Z) (kv0 : jk Z v0 12) (h : f_X12_end v0 v1 Z I L Q) : jCt l yX12_end w_X12_end { frames := 1, cells := 0, slots := 0, locals := 22 } D cy [.ref v0, .int v1] Z I L (rtZ Z Q) := by
  refine jCt_of (cc := cX12_end) (maxL := 2) (ret := (some .boolean)) (by decide +kernel) rfl (Nat.le_of_ble_eq_true rfl) ?_
  intro G eD eY eL E
  subst eD; subst eY; subst eL
  have E : jE G cX12_end RX12 w_X12_end 2 (some .boolean) { frames := 1, cells := 0, slots := 0, locals := 22 } (rtZ Z Q) := E
  show jJ G 2 0 [(0, .ref v0), (1, .int v1)] [] Z I L 0 0
  refine j_aload_n E dX12_end_0 0 rfl ?_
  refine j_iconst E (v := 0) dX12_end_1 (by decide) ?_
  refine j_puti E 12 22 rfl rfl (by decide) (by decide) (iw iT_12) tyX12_ok nmX12 rfl rfl (tw W_690) rfl rfl rfl kv0 dX12_end_2 ?_
  refine j_nmI (fun I1 eI1 => ?_)
  have h := h I1 eI1
  refine j_iload_n E dX12_end_5 1 rfl ?_
  refine j_iconst E (v := 0) dX12_end_6 (by decide) ?_
  refine j_aload_n E dX12_end_7 0 rfl ?_
  refine j_geti E 12 19 rfl rfl (by decide) (by decide) (iw iT_12) rfl rfl (tw W_700) kv0 dX12_end_8 ?_
  refine j_callS E [.int v1, .int (0 : Int32), .int (I1 v0 19)] [] (c_X12_in (gL G) (gD G) (gY G) v1 (0 : Int32) (I1 v0 19) Z I1 L _ hZ  h) (gwS W_696 W_697 W_695 W_694) rfl fy_X12_in ⟨by decide, by decide⟩ rfl rfl (Nat.le_of_ble_eq_true rfl) ⟨Nat.zero_le _, Nat.zero_le _⟩ dX12_end_11 (fun v2 Z3 I4 L5 q6 => ?_)
  obtain ⟨rfl, r8, rfl, zr8, h⟩ := q6
  show jJ G 2 14 [(0, .ref v0), (1, .int v1)] [.int r8] Z I4 L5 0 0
  refine j_if_ne E 19 dX12_end_14 (by decide) (fun c9 => ?_) (fun c9 => ?_)
  · have h := h.1 c9
    refine j_aload_n E dX12_end_19 0 rfl ?_
    refine j_iload_n E dX12_end_20 1 rfl ?_
    refine j_puti E 12 19 rfl rfl (by decide) (by decide) (iw iT_12) tyX12_ok nmX12 rfl rfl (tw W_700) rfl rfl rfl kv0 dX12_end_21 ?_
    refine j_nmI (fun I10 eI10 => ?_)
    have h := h I10 eI10
    refine j_iconst E (v := 1) dX12_end_24 (by decide) ?_
    exact j_zreturn E (Or.inr rfl) ⟨rfl, _, rfl, (Or.inr rfl), h⟩ (Nat.zero_le _) (Nat.zero_le _) dX12_end_25
  · have h := h.2 c9
    refine j_iconst E (v := 0) dX12_end_17 (by decide) ?_
    exact j_zreturn E (Or.inl rfl) ⟨rfl, _, rfl, (Or.inl rfl), h⟩ (Nat.zero_le _) (Nat.zero_le _) dX12_end_18
set_option maxRecDepth 100000 in
def f_X12_begin (B : Nat × Nat) (v0 : Nat) (v1 : Nat) (v2 : Int32) (v3 : Int32) (Z : jZ) (I : jI) (L : jL) (Q : jZ → jI → jL → Prop) : Prop := (∀ Z1 : jZ, Z1 = jpR Z v0 23 (some v1) → (∀ I4 : jI, I4 = jpI I v0 24 v2 → (∀ I5 : jI, I5 = jpI I4 v0 25 v3 → (∀ I6 : jI, I6 = jpI I5 v0 26 (0 : Int32) → (∀ I7 : jI, I7 = jpI I6 v0 27 (-1 : Int32) → Q Z1 I7 L)))))
set_option maxHeartbeats 4000000 in
set_option maxRecDepth 100000 in
theorem c_X12_begin (l : Launch) (D : va_G) (cy : jC) (B : Nat × Nat) (v0 : Nat) (v1 : Nat) (v2 : Int32) (v3 : Int32) (Z : jZ) (I : jI) (L : jL) (Q : jZ → jI → jL → Prop) (hZ : SH Z) (hb : jin B Z) (kv0 : jk Z v0 12) (kv1 : jk Z v1 13) (h : f_X12_begin B v0 v1 v2 v3 Z I L Q) : jCtU l yX12_begin w_X12_begin B 0 0 D cy [.ref v0, .ref v1, .int v2, .int v3] Z I L (urtV B Z Q) := by
  refine jCtU_of (cc := cX12_begin) (maxL := 4) (ret := none) (by decide +kernel) rfl (Nat.le_of_ble_eq_true rfl) ?_
  intro G eD eY eL E EU
  subst eD; subst eY; subst eL
  have E : jE G cX12_begin RX12 w_X12_begin 4 none (jrm B 0 0 Z) jRF := E
  have hx : jext Z Z := jext_rfl
  have hc : jle Z Z := jle_rfl
  show jJ G 4 0 [(0, .ref v0), (1, .ref v1), (2, .int v2), (3, .int v3)] [] Z I L (jcz Z - jcz Z) (jsz Z - jsz Z)
  refine j_aload_n E dX12_begin_0 0 rfl ?_
  refine j_aload_n E dX12_begin_1 1 rfl ?_
  refine j_putr E 12 23 rfl rfl (by decide) (by decide) (iw iT_12) tyX12_ok nmX12 rfl rfl (tw W_702) rfl kv0 dX12_begin_2 ?_
  refine j_nmZ (fun Z1 eZ1 => ?_)
  have h := h Z1 eZ1
  have yZ1 : jext Z Z1 := by rw [eZ1]; exact jext_putr
  have hZ : SH Z1 := by rw [eZ1]; exact SH_putr hZ kv0 rfl
  have hx : jext Z Z1 := jext_trans hx yZ1
  refine j_kn (k' := jcz Z1 - jcz Z) (n' := jsz Z1 - jsz Z) (by rw [eZ1]; rfl) (by rw [eZ1]; rfl) ?_
  have hc : jle Z Z1 := by rw [eZ1]; exact hc
  have hb : jin B Z1 := by rw [eZ1]; exact hb
  have k2 := (yZ1 _ _ kv0).1
  have k3 := (yZ1 _ _ kv1).1
  refine j_aload_n E dX12_begin_5 0 rfl ?_
  refine j_iload_n E dX12_begin_6 2 rfl ?_
  refine j_puti E 12 24 rfl rfl (by decide) (by decide) (iw iT_12) tyX12_ok nmX12 rfl rfl (tw W_703) rfl rfl rfl k2 dX12_begin_7 ?_
  refine j_nmI (fun I4 eI4 => ?_)
  have h := h I4 eI4
  refine j_aload_n E dX12_begin_10 0 rfl ?_
  refine j_iload_n E dX12_begin_11 3 rfl ?_
  refine j_puti E 12 25 rfl rfl (by decide) (by decide) (iw iT_12) tyX12_ok nmX12 rfl rfl (tw W_704) rfl rfl rfl k2 dX12_begin_12 ?_
  refine j_nmI (fun I5 eI5 => ?_)
  have h := h I5 eI5
  refine j_aload_n E dX12_begin_15 0 rfl ?_
  refine j_iconst E (v := 0) dX12_begin_16 (by decide) ?_
  refine j_puti E 12 26 rfl rfl (by decide) (by decide) (iw iT_12) tyX12_ok nmX12 rfl rfl (tw W_705) rfl rfl rfl k2 dX12_begin_17 ?_
  refine j_nmI (fun I6 eI6 => ?_)
  have h := h I6 eI6
  refine j_aload_n E dX12_begin_20 0 rfl ?_
  refine j_iconst E (v := -1) dX12_begin_21 (by decide) ?_
  refine j_puti E 12 27 rfl rfl (by decide) (by decide) (iw iT_12) tyX12_ok nmX12 rfl rfl (tw W_706) rfl rfl rfl k2 dX12_begin_22 ?_
  refine j_nmI (fun I7 eI7 => ?_)
  have h := h I7 eI7
  exact ju_return E EU hc hb ⟨hx, hZ, hb, rfl, h⟩ dX12_begin_25
set_option maxRecDepth 100000 in
def f_X12_here (v0 : Nat) (Z : jZ) (I : jI) (L : jL) (Q : Int32 → jI → jL → Prop) : Prop := (((I v0 24) ≤ (I v0 26) → Q (-1 : Int32) I L) ∧ (¬ ((I v0 24) ≤ (I v0 26)) → (((I v0 25) ≤ (I v0 26) → Q (-1 : Int32) I L) ∧ (¬ ((I v0 25) ≤ (I v0 26)) → (∃ b3 : Nat, jr Z v0 23 = some b3 ∧ jk Z b3 13 ∧ (vp_in (I v0 26) (jlen Z b3) ∧ Q (I b3 (I v0 26).toNatClampNeg) I L))))))
set_option maxHeartbeats 4000000 in
set_option maxRecDepth 100000 in
theorem c_X12_here (l : Launch) (D : va_G) (cy : jC) (v0 : Nat) (Z : jZ) (I : jI) (L : jL) (Q : Int32 → jI → jL → Prop) (hZ : SH Z) (kv0 : jk Z v0 12) (h : f_X12_here v0 Z I L Q) : jCt l yX12_here w_X12_here { frames := 0, cells := 0, slots := 0, locals := 0 } D cy [.ref v0] Z I L (rtI Z Q) := by
  refine jCt_of (cc := cX12_here) (maxL := 1) (ret := (some .int)) (by decide +kernel) rfl (Nat.le_of_ble_eq_true rfl) ?_
  intro G eD eY eL E
  subst eD; subst eY; subst eL
  have E : jE G cX12_here RX12 w_X12_here 1 (some .int) { frames := 0, cells := 0, slots := 0, locals := 0 } (rtI Z Q) := E
  show jJ G 1 0 [(0, .ref v0)] [] Z I L 0 0
  refine j_aload_n E dX12_here_0 0 rfl ?_
  refine j_geti E 12 26 rfl rfl (by decide) (by decide) (iw iT_12) rfl rfl (tw W_705) kv0 dX12_here_1 ?_
  refine j_aload_n E dX12_here_4 0 rfl ?_
  refine j_geti E 12 24 rfl rfl (by decide) (by decide) (iw iT_12) rfl rfl (tw W_703) kv0 dX12_here_5 ?_
  refine j_icmp_ge E 34 dX12_here_8 (by decide) (fun c1 => ?_) (fun c1 => ?_)
  · have h := h.1 c1
    refine j_iconst E (v := -1) dX12_here_34 (by decide) ?_
    exact j_ireturn E ⟨rfl, _, rfl, h⟩ (Nat.zero_le _) (Nat.zero_le _) dX12_here_35
  · have h := h.2 c1
    refine j_aload_n E dX12_here_11 0 rfl ?_
    refine j_geti E 12 26 rfl rfl (by decide) (by decide) (iw iT_12) rfl rfl (tw W_705) kv0 dX12_here_12 ?_
    refine j_aload_n E dX12_here_15 0 rfl ?_
    refine j_geti E 12 25 rfl rfl (by decide) (by decide) (iw iT_12) rfl rfl (tw W_704) kv0 dX12_here_16 ?_
    refine j_icmp_ge E 34 dX12_here_19 (by decide) (fun c2 => ?_) (fun c2 => ?_)
    · have h := h.1 c2
      refine j_iconst E (v := -1) dX12_here_34 (by decide) ?_
      exact j_ireturn E ⟨rfl, _, rfl, h⟩ (Nat.zero_le _) (Nat.zero_le _) dX12_here_35
    · have h := h.2 c2
      refine j_aload_n E dX12_here_22 0 rfl ?_
      obtain ⟨b3, eb3, kb3, h⟩ := h
      refine j_getr E 12 23 rfl rfl (by decide) (by decide) (iw iT_12) rfl rfl (tw W_702) kv0 eb3 dX12_here_23 ?_
      refine j_aload_n E dX12_here_26 0 rfl ?_
      refine j_geti E 12 26 rfl rfl (by decide) (by decide) (iw iT_12) rfl rfl (tw W_705) kv0 dX12_here_27 ?_
      obtain ⟨o4, h⟩ := h
      refine j_bald E kb3 o4 dX12_here_30 ?_
      refine j_goto E 35 dX12_here_31 (by decide) ?_
      exact j_ireturn E ⟨rfl, _, rfl, h⟩ (Nat.zero_le _) (Nat.zero_le _) dX12_here_35
set_option maxRecDepth 100000 in
def f_X12_fine (v0 : Nat) (Z : jZ) (I : jI) (L : jL) (Q : Int32 → jI → jL → Prop) : Prop := ((¬ (I v0 27) = (-1 : Int32) → Q (0 : Int32) I L) ∧ ((I v0 27) = (-1 : Int32) → Q (1 : Int32) I L))
set_option maxHeartbeats 4000000 in
set_option maxRecDepth 100000 in
theorem c_X12_fine (l : Launch) (D : va_G) (cy : jC) (v0 : Nat) (Z : jZ) (I : jI) (L : jL) (Q : Int32 → jI → jL → Prop) (hZ : SH Z) (kv0 : jk Z v0 12) (h : f_X12_fine v0 Z I L Q) : jCt l yX12_fine w_X12_fine { frames := 0, cells := 0, slots := 0, locals := 0 } D cy [.ref v0] Z I L (rtZ Z Q) := by
  refine jCt_of (cc := cX12_fine) (maxL := 1) (ret := (some .boolean)) (by decide +kernel) rfl (Nat.le_of_ble_eq_true rfl) ?_
  intro G eD eY eL E
  subst eD; subst eY; subst eL
  have E : jE G cX12_fine RX12 w_X12_fine 1 (some .boolean) { frames := 0, cells := 0, slots := 0, locals := 0 } (rtZ Z Q) := E
  show jJ G 1 0 [(0, .ref v0)] [] Z I L 0 0
  refine j_aload_n E dX12_fine_0 0 rfl ?_
  refine j_geti E 12 27 rfl rfl (by decide) (by decide) (iw iT_12) rfl rfl (tw W_706) kv0 dX12_fine_1 ?_
  refine j_iconst E (v := -1) dX12_fine_4 (by decide) ?_
  refine j_icmp_ne E 12 dX12_fine_5 (by decide) (fun c1 => ?_) (fun c1 => ?_)
  · have h := h.1 c1
    refine j_iconst E (v := 0) dX12_fine_12 (by decide) ?_
    exact j_zreturn E (Or.inl rfl) ⟨rfl, _, rfl, (Or.inl rfl), h⟩ (Nat.zero_le _) (Nat.zero_le _) dX12_fine_13
  · have h := h.2 c1
    refine j_iconst E (v := 1) dX12_fine_8 (by decide) ?_
    refine j_goto E 13 dX12_fine_9 (by decide) ?_
    exact j_zreturn E (Or.inr rfl) ⟨rfl, _, rfl, (Or.inr rfl), h⟩ (Nat.zero_le _) (Nat.zero_le _) dX12_fine_13
set_option maxRecDepth 100000 in
def f_X12_fault (v0 : Nat) (v1 : Int32) (Z : jZ) (I : jI) (L : jL) (Q : jI → jL → Prop) : Prop := (f_X12_fine v0 Z I L (fun r7 I3 L4 => ((r7 = 0 → Q I3 L4) ∧ (¬ (r7 = 0) → (∀ I9 : jI, I9 = jpI I3 v0 27 v1 → Q I9 L4)))))
set_option maxHeartbeats 4000000 in
set_option maxRecDepth 100000 in
theorem c_X12_fault (l : Launch) (D : va_G) (cy : jC) (v0 : Nat) (v1 : Int32) (Z : jZ) (I : jI) (L : jL) (Q : jI → jL → Prop) (hZ : SH Z) (kv0 : jk Z v0 12) (h : f_X12_fault v0 v1 Z I L Q) : jCt l yX12_fault w_X12_fault { frames := 1, cells := 0, slots := 0, locals := 20 } D cy [.ref v0, .int v1] Z I L (rtV Z Q) := by
  refine jCt_of (cc := cX12_fault) (maxL := 2) (ret := none) (by decide +kernel) rfl (Nat.le_of_ble_eq_true rfl) ?_
  intro G eD eY eL E
  subst eD; subst eY; subst eL
  have E : jE G cX12_fault RX12 w_X12_fault 2 none { frames := 1, cells := 0, slots := 0, locals := 20 } (rtV Z Q) := E
  show jJ G 2 0 [(0, .ref v0), (1, .int v1)] [] Z I L 0 0
  refine j_aload_n E dX12_fault_0 0 rfl ?_
  refine j_callV E [] [] (c_X12_fine (gL G) (gD G) (gY G) v0 Z I L _ hZ kv0 h) (gwV W_708 W_709 W_710 W_695 W_707) rfl ⟨rfl, fy_X12_fine⟩ ⟨by decide, by decide⟩ (c := 12) rfl (by decide) kv0 rfl rfl (Nat.le_of_ble_eq_true rfl) ⟨Nat.zero_le _, Nat.zero_le _⟩ dX12_fault_1 (fun v1 Z2 I3 L4 q5 => ?_)
  obtain ⟨rfl, r7, rfl, zr7, h⟩ := q5
  show jJ G 2 4 [(0, .ref v0), (1, .int v1)] [.int r7] Z I3 L4 0 0
  refine j_if_eq E 12 dX12_fault_4 (by decide) (fun c8 => ?_) (fun c8 => ?_)
  · have h := h.1 c8
    exact j_return E ⟨rfl, rfl, h⟩ (Nat.zero_le _) (Nat.zero_le _) dX12_fault_12
  · have h := h.2 c8
    refine j_aload_n E dX12_fault_7 0 rfl ?_
    refine j_iload_n E dX12_fault_8 1 rfl ?_
    refine j_puti E 12 27 rfl rfl (by decide) (by decide) (iw iT_12) tyX12_ok nmX12 rfl rfl (tw W_706) rfl rfl rfl kv0 dX12_fault_9 ?_
    refine j_nmI (fun I9 eI9 => ?_)
    have h := h I9 eI9
    exact j_return E ⟨rfl, rfl, h⟩ (Nat.zero_le _) (Nat.zero_le _) dX12_fault_12
set_option maxRecDepth 100000 in
def f_X12_passes (v0 : Nat) (v1 : Int32) (Z : jZ) (I : jI) (L : jL) (Q : Int32 → jI → jL → Prop) : Prop := (f_X12_fine v0 Z I L (fun r7 I3 L4 => ((r7 = 0 → Q (0 : Int32) I3 L4) ∧ (¬ (r7 = 0) → (f_X12_here v0 Z I3 L4 (fun r15 I11 L12 => ((r15 = v1 → (∀ I17 : jI, I17 = jpI I11 v0 26 ((I11 v0 26) + (1 : Int32)) → Q (1 : Int32) I17 L12)) ∧ (¬ (r15 = v1) → Q (0 : Int32) I11 L12))))))))
set_option maxHeartbeats 4000000 in
set_option maxRecDepth 100000 in
theorem c_X12_passes (l : Launch) (D : va_G) (cy : jC) (v0 : Nat) (v1 : Int32) (Z : jZ) (I : jI) (L : jL) (Q : Int32 → jI → jL → Prop) (hZ : SH Z) (kv0 : jk Z v0 12) (h : f_X12_passes v0 v1 Z I L Q) : jCt l yX12_passes w_X12_passes { frames := 1, cells := 0, slots := 0, locals := 20 } D cy [.ref v0, .int v1] Z I L (rtZ Z Q) := by
  refine jCt_of (cc := cX12_passes) (maxL := 2) (ret := (some .boolean)) (by decide +kernel) rfl (Nat.le_of_ble_eq_true rfl) ?_
  intro G eD eY eL E
  subst eD; subst eY; subst eL
  have E : jE G cX12_passes RX12 w_X12_passes 2 (some .boolean) { frames := 1, cells := 0, slots := 0, locals := 20 } (rtZ Z Q) := E
  show jJ G 2 0 [(0, .ref v0), (1, .int v1)] [] Z I L 0 0
  refine j_aload_n E dX12_passes_0 0 rfl ?_
  refine j_callV E [] [] (c_X12_fine (gL G) (gD G) (gY G) v0 Z I L _ hZ kv0 h) (gwV W_708 W_709 W_710 W_695 W_707) rfl ⟨rfl, fy_X12_fine⟩ ⟨by decide, by decide⟩ (c := 12) rfl (by decide) kv0 rfl rfl (Nat.le_of_ble_eq_true rfl) ⟨Nat.zero_le _, Nat.zero_le _⟩ dX12_passes_1 (fun v1 Z2 I3 L4 q5 => ?_)
  obtain ⟨rfl, r7, rfl, zr7, h⟩ := q5
  show jJ G 2 4 [(0, .ref v0), (1, .int v1)] [.int r7] Z I3 L4 0 0
  refine j_if_eq E 15 dX12_passes_4 (by decide) (fun c8 => ?_) (fun c8 => ?_)
  · have h := h.1 c8
    refine j_iconst E (v := 0) dX12_passes_15 (by decide) ?_
    exact j_zreturn E (Or.inl rfl) ⟨rfl, _, rfl, (Or.inl rfl), h⟩ (Nat.zero_le _) (Nat.zero_le _) dX12_passes_16
  · have h := h.2 c8
    refine j_aload_n E dX12_passes_7 0 rfl ?_
    refine j_callV E [] [] (c_X12_here (gL G) (gD G) (gY G) v0 Z I3 L4 _ hZ kv0 h) (gwV W_712 W_713 W_714 W_695 W_711) rfl ⟨rfl, fy_X12_here⟩ ⟨by decide, by decide⟩ (c := 12) rfl (by decide) kv0 rfl rfl (Nat.le_of_ble_eq_true rfl) ⟨Nat.zero_le _, Nat.zero_le _⟩ dX12_passes_8 (fun v9 Z10 I11 L12 q13 => ?_)
    obtain ⟨rfl, r15, rfl, h⟩ := q13
    show jJ G 2 11 [(0, .ref v0), (1, .int v1)] [.int r15] Z I11 L12 0 0
    refine j_iload_n E dX12_passes_11 1 rfl ?_
    refine j_icmp_eq E 17 dX12_passes_12 (by decide) (fun c16 => ?_) (fun c16 => ?_)
    · have h := h.1 c16
      refine j_aload_n E dX12_passes_17 0 rfl ?_
      refine j_dup E dX12_passes_18 rfl ?_
      refine j_geti E 12 26 rfl rfl (by decide) (by decide) (iw iT_12) rfl rfl (tw W_705) kv0 dX12_passes_19 ?_
      refine j_iconst E (v := 1) dX12_passes_22 (by decide) ?_
      refine j_iadd E dX12_passes_23 ?_
      refine j_puti E 12 26 rfl rfl (by decide) (by decide) (iw iT_12) tyX12_ok nmX12 rfl rfl (tw W_705) rfl rfl rfl kv0 dX12_passes_24 ?_
      refine j_nmI (fun I17 eI17 => ?_)
      have h := h I17 eI17
      refine j_iconst E (v := 1) dX12_passes_27 (by decide) ?_
      exact j_zreturn E (Or.inr rfl) ⟨rfl, _, rfl, (Or.inr rfl), h⟩ (Nat.zero_le _) (Nat.zero_le _) dX12_passes_28
    · have h := h.2 c16
      refine j_iconst E (v := 0) dX12_passes_15 (by decide) ?_
      exact j_zreturn E (Or.inl rfl) ⟨rfl, _, rfl, (Or.inl rfl), h⟩ (Nat.zero_le _) (Nat.zero_le _) dX12_passes_16
set_option maxRecDepth 100000 in
def f_X12_need (v0 : Nat) (v1 : Int32) (Z : jZ) (I : jI) (L : jL) (Q : jI → jL → Prop) : Prop := (f_X12_passes v0 v1 Z I L (fun r7 I3 L4 => ((¬ r7 = 0 → Q I3 L4) ∧ (r7 = 0 → (f_X12_fault v0 (I3 v0 26) Z I3 L4 (fun I11 L12 => Q I11 L12))))))
set_option maxHeartbeats 4000000 in
set_option maxRecDepth 100000 in
theorem c_X12_need (l : Launch) (D : va_G) (cy : jC) (v0 : Nat) (v1 : Int32) (Z : jZ) (I : jI) (L : jL) (Q : jI → jL → Prop) (hZ : SH Z) (kv0 : jk Z v0 12) (h : f_X12_need v0 v1 Z I L Q) : jCt l yX12_need w_X12_need { frames := 2, cells := 0, slots := 0, locals := 41 } D cy [.ref v0, .int v1] Z I L (rtV Z Q) := by
  refine jCt_of (cc := cX12_need) (maxL := 2) (ret := none) (by decide +kernel) rfl (Nat.le_of_ble_eq_true rfl) ?_
  intro G eD eY eL E
  subst eD; subst eY; subst eL
  have E : jE G cX12_need RX12 w_X12_need 2 none { frames := 2, cells := 0, slots := 0, locals := 41 } (rtV Z Q) := E
  show jJ G 2 0 [(0, .ref v0), (1, .int v1)] [] Z I L 0 0
  refine j_aload_n E dX12_need_0 0 rfl ?_
  refine j_iload_n E dX12_need_1 1 rfl ?_
  refine j_callV E [.int v1] [] (c_X12_passes (gL G) (gD G) (gY G) v0 v1 Z I L _ hZ kv0 h) (gwV W_716 W_717 W_718 W_695 W_715) rfl ⟨rfl, fy_X12_passes⟩ ⟨by decide, by decide⟩ (c := 12) rfl (by decide) kv0 rfl rfl (Nat.le_of_ble_eq_true rfl) ⟨Nat.zero_le _, Nat.zero_le _⟩ dX12_need_2 (fun v1 Z2 I3 L4 q5 => ?_)
  obtain ⟨rfl, r7, rfl, zr7, h⟩ := q5
  show jJ G 2 5 [(0, .ref v0), (1, .int v1)] [.int r7] Z I3 L4 0 0
  refine j_if_ne E 16 dX12_need_5 (by decide) (fun c8 => ?_) (fun c8 => ?_)
  · have h := h.1 c8
    exact j_return E ⟨rfl, rfl, h⟩ (Nat.zero_le _) (Nat.zero_le _) dX12_need_16
  · have h := h.2 c8
    refine j_aload_n E dX12_need_8 0 rfl ?_
    refine j_aload_n E dX12_need_9 0 rfl ?_
    refine j_geti E 12 26 rfl rfl (by decide) (by decide) (iw iT_12) rfl rfl (tw W_705) kv0 dX12_need_10 ?_
    refine j_callV E [.int (I3 v0 26)] [] (c_X12_fault (gL G) (gD G) (gY G) v0 (I3 v0 26) Z I3 L4 _ hZ kv0 h) (gwV W_720 W_721 W_722 W_695 W_719) rfl ⟨rfl, fy_X12_fault⟩ ⟨by decide, by decide⟩ (c := 12) rfl (by decide) kv0 rfl rfl (Nat.le_of_ble_eq_true rfl) ⟨Nat.zero_le _, Nat.zero_le _⟩ dX12_need_13 (fun v9 Z10 I11 L12 q13 => ?_)
    obtain ⟨rfl, rfl, h⟩ := q13
    show jJ G 2 16 [(0, .ref v0), (1, .int v1)] [] Z I11 L12 0 0
    exact j_return E ⟨rfl, rfl, h⟩ (Nat.zero_le _) (Nat.zero_le _) dX12_need_16
set_option maxRecDepth 100000 in
def f_X12_number_b111  (Z : jZ) (Q : Int32 → jI → jL → Prop) (v0 : Nat) (v5 : Int32) (I : jI) (L : jL) : Prop := (f_X12_fine v0 Z I L (fun r7 I3 L4 => ((r7 = 0 → Q (0 : Int32) I3 L4) ∧ (¬ (r7 = 0) → Q v5 I3 L4))))
set_option maxHeartbeats 4000000 in
set_option maxRecDepth 100000 in
theorem m_X12_number_b111 {G : jG} {Z : jZ} {Q : Int32 → jI → jL → Prop} (E : jE G cX12_number RX12 w_X12_number 6 (some .int) { frames := 2, cells := 0, slots := 0, locals := 41 } (rtI Z Q)) (hZ : SH Z)  (v0 : Nat) (v5 : Int32) (I : jI) (L : jL) (kv0 : jk Z v0 12) (h : f_X12_number_b111  Z Q v0 v5 I L) : jJ G 6 111 [(0, .ref v0), (5, .int v5)] [] Z I L 0 0 := by
  refine j_aload_n E dX12_number_111 0 rfl ?_
  refine j_callV E [] [] (c_X12_fine (gL G) (gD G) (gY G) v0 Z I L _ hZ kv0 h) (gwV W_708 W_709 W_710 W_695 W_707) rfl ⟨rfl, fy_X12_fine⟩ ⟨by decide, by decide⟩ (c := 12) rfl (by decide) kv0 rfl rfl (Nat.le_of_ble_eq_true rfl) ⟨Nat.zero_le _, Nat.zero_le _⟩ dX12_number_112 (fun v1 Z2 I3 L4 q5 => ?_)
  obtain ⟨rfl, r7, rfl, zr7, h⟩ := q5
  show jJ G 6 115 [(0, .ref v0), (5, .int v5)] [.int r7] Z I3 L4 0 0
  refine j_if_eq E 123 dX12_number_115 (by decide) (fun c8 => ?_) (fun c8 => ?_)
  · have h := h.1 c8
    refine j_iconst E (v := 0) dX12_number_123 (by decide) ?_
    exact j_ireturn E ⟨rfl, _, rfl, h⟩ (Nat.zero_le _) (Nat.zero_le _) dX12_number_124
  · have h := h.2 c8
    refine j_iload E dX12_number_118 1 rfl ?_
    refine j_goto E 124 dX12_number_120 (by decide) ?_
    exact j_ireturn E ⟨rfl, _, rfl, h⟩ (Nat.zero_le _) (Nat.zero_le _) dX12_number_124
set_option maxRecDepth 100000 in
def f_X12_number_b71  (Z : jZ) (Q : Int32 → jI → jL → Prop) (v0 : Nat) (v2 : Int32) (v3 : Int32) (v4 : Int32) (v5 : Int32) (I : jI) (L : jL) : Prop := ((¬ (I v0 26) = v4 → (f_X12_in v5 v2 v3 Z I L (fun r16 I12 L13 => ((¬ r16 = 0 → f_X12_number_b111  Z Q v0 v5 I12 L13) ∧ (r16 = 0 → (f_X12_fault v0 ((I12 v0 26) - (1 : Int32)) Z I12 L13 (fun I20 L21 => f_X12_number_b111  Z Q v0 v5 I20 L21))))))) ∧ ((I v0 26) = v4 → (f_X12_fault v0 (I v0 26) Z I L (fun I26 L27 => f_X12_number_b111  Z Q v0 v5 I26 L27))))
set_option maxHeartbeats 4000000 in
set_option maxRecDepth 100000 in
theorem m_X12_number_b71 {G : jG} {Z : jZ} {Q : Int32 → jI → jL → Prop} (E : jE G cX12_number RX12 w_X12_number 6 (some .int) { frames := 2, cells := 0, slots := 0, locals := 41 } (rtI Z Q)) (hZ : SH Z)  (v0 : Nat) (v2 : Int32) (v3 : Int32) (v4 : Int32) (v5 : Int32) (I : jI) (L : jL) (kv0 : jk Z v0 12) (h : f_X12_number_b71  Z Q v0 v2 v3 v4 v5 I L) : jJ G 6 71 [(0, .ref v0), (2, .int v2), (3, .int v3), (4, .int v4), (5, .int v5)] [] Z I L 0 0 := by
  refine j_aload_n E dX12_number_71 0 rfl ?_
  refine j_geti E 12 26 rfl rfl (by decide) (by decide) (iw iT_12) rfl rfl (tw W_705) kv0 dX12_number_72 ?_
  refine j_iload E dX12_number_75 3 rfl ?_
  refine j_icmp_ne E 91 dX12_number_77 (by decide) (fun c9 => ?_) (fun c9 => ?_)
  · have h := h.1 c9
    refine j_iload E dX12_number_91 4 rfl ?_
    refine j_iload_n E dX12_number_93 1 rfl ?_
    refine j_iload_n E dX12_number_94 2 rfl ?_
    refine j_callS E [.int v5, .int v2, .int v3] [] (c_X12_in (gL G) (gD G) (gY G) v5 v2 v3 Z I L _ hZ  h) (gwS W_696 W_697 W_695 W_694) rfl fy_X12_in ⟨by decide, by decide⟩ rfl rfl (Nat.le_of_ble_eq_true rfl) ⟨Nat.zero_le _, Nat.zero_le _⟩ dX12_number_95 (fun v10 Z11 I12 L13 q14 => ?_)
    obtain ⟨rfl, r16, rfl, zr16, h⟩ := q14
    show jJ G 6 98 [(0, .ref v0), (2, .int v2), (3, .int v3), (4, .int v4), (5, .int v5)] [.int r16] Z I12 L13 0 0
    refine j_if_ne E 111 dX12_number_98 (by decide) (fun c17 => ?_) (fun c17 => ?_)
    · have h := h.1 c17
      refine j_sub [0, 4] rfl ?_
      exact m_X12_number_b111 E hZ  v0 v5 I12 L13 kv0 h
    · have h := h.2 c17
      refine j_aload_n E dX12_number_101 0 rfl ?_
      refine j_aload_n E dX12_number_102 0 rfl ?_
      refine j_geti E 12 26 rfl rfl (by decide) (by decide) (iw iT_12) rfl rfl (tw W_705) kv0 dX12_number_103 ?_
      refine j_iconst E (v := 1) dX12_number_106 (by decide) ?_
      refine j_isub E dX12_number_107 ?_
      refine j_callV E [.int ((I12 v0 26) - (1 : Int32))] [] (c_X12_fault (gL G) (gD G) (gY G) v0 ((I12 v0 26) - (1 : Int32)) Z I12 L13 _ hZ kv0 h) (gwV W_720 W_721 W_722 W_695 W_719) rfl ⟨rfl, fy_X12_fault⟩ ⟨by decide, by decide⟩ (c := 12) rfl (by decide) kv0 rfl rfl (Nat.le_of_ble_eq_true rfl) ⟨Nat.zero_le _, Nat.zero_le _⟩ dX12_number_108 (fun v18 Z19 I20 L21 q22 => ?_)
      obtain ⟨rfl, rfl, h⟩ := q22
      show jJ G 6 111 [(0, .ref v0), (2, .int v2), (3, .int v3), (4, .int v4), (5, .int v5)] [] Z I20 L21 0 0
      refine j_sub [0, 4] rfl ?_
      exact m_X12_number_b111 E hZ  v0 v5 I20 L21 kv0 h
  · have h := h.2 c9
    refine j_aload_n E dX12_number_80 0 rfl ?_
    refine j_aload_n E dX12_number_81 0 rfl ?_
    refine j_geti E 12 26 rfl rfl (by decide) (by decide) (iw iT_12) rfl rfl (tw W_705) kv0 dX12_number_82 ?_
    refine j_callV E [.int (I v0 26)] [] (c_X12_fault (gL G) (gD G) (gY G) v0 (I v0 26) Z I L _ hZ kv0 h) (gwV W_720 W_721 W_722 W_695 W_719) rfl ⟨rfl, fy_X12_fault⟩ ⟨by decide, by decide⟩ (c := 12) rfl (by decide) kv0 rfl rfl (Nat.le_of_ble_eq_true rfl) ⟨Nat.zero_le _, Nat.zero_le _⟩ dX12_number_85 (fun v24 Z25 I26 L27 q28 => ?_)
    obtain ⟨rfl, rfl, h⟩ := q28
    show jJ G 6 88 [(0, .ref v0), (2, .int v2), (3, .int v3), (4, .int v4), (5, .int v5)] [] Z I26 L27 0 0
    refine j_goto E 111 dX12_number_88 (by decide) ?_
    refine j_sub [0, 4] rfl ?_
    exact m_X12_number_b111 E hZ  v0 v5 I26 L27 kv0 h
set_option maxRecDepth 100000 in
def f_X12_number_L18  (Z : jZ) (Q : Int32 → jI → jL → Prop) : Nat → Nat → Int32 → Int32 → Int32 → Int32 → Int32 → jI → jL → Prop
  | 0 => fun _ _ _ _ _ _ _ _ => False
  | n + 1 => fun v0 v1 v2 v3 v4 v5 I L => (((v4 + v1) ≤ (I v0 26) → f_X12_number_b71  Z Q v0 v2 v3 v4 v5 I L) ∧ (¬ ((v4 + v1) ≤ (I v0 26)) → (f_X12_here v0 Z I L (fun r37 I33 L34 => (f_X12_in r37 (48 : Int32) (57 : Int32) Z I33 L34 (fun r44 I40 L41 => ((r44 = 0 → f_X12_number_b71  Z Q v0 v2 v3 v4 v5 I40 L41) ∧ (¬ (r44 = 0) → (f_X12_here v0 Z I40 L41 (fun r52 I48 L49 => (∀ x53 : Int32, x53 = ((((10 : Int32) * v5) + r52) - (48 : Int32)) → (∀ I54 : jI, I54 = jpI I48 v0 26 ((I48 v0 26) + (1 : Int32)) → (f_X12_number_L18 Z Q n) v0 v1 v2 v3 v4 x53 I54 L49))))))))))))
set_option maxHeartbeats 4000000 in
set_option maxRecDepth 100000 in
theorem m_X12_number_L18 {G : jG} {Z : jZ} {Q : Int32 → jI → jL → Prop} (E : jE G cX12_number RX12 w_X12_number 6 (some .int) { frames := 2, cells := 0, slots := 0, locals := 41 } (rtI Z Q)) (hZ : SH Z)  : ∀ (n : Nat) (v0 : Nat) (v1 : Int32) (v2 : Int32) (v3 : Int32) (v4 : Int32) (v5 : Int32) (I : jI) (L : jL), jk Z v0 12 → f_X12_number_L18  Z Q n v0 v1 v2 v3 v4 v5 I L → jJ G 6 18 [(0, .ref v0), (1, .int v1), (2, .int v2), (3, .int v3), (4, .int v4), (5, .int v5)] [] Z I L 0 0 := by
  intro n
  induction n with
  | zero => intro v0 v1 v2 v3 v4 v5 I L _ h; exact h.elim
  | succ n ih =>
    intro v0 v1 v2 v3 v4 v5 I L kv0 h
    have h : (((v4 + v1) ≤ (I v0 26) → f_X12_number_b71  Z Q v0 v2 v3 v4 v5 I L) ∧ (¬ ((v4 + v1) ≤ (I v0 26)) → (f_X12_here v0 Z I L (fun r37 I33 L34 => (f_X12_in r37 (48 : Int32) (57 : Int32) Z I33 L34 (fun r44 I40 L41 => ((r44 = 0 → f_X12_number_b71  Z Q v0 v2 v3 v4 v5 I40 L41) ∧ (¬ (r44 = 0) → (f_X12_here v0 Z I40 L41 (fun r52 I48 L49 => (∀ x53 : Int32, x53 = ((((10 : Int32) * v5) + r52) - (48 : Int32)) → (∀ I54 : jI, I54 = jpI I48 v0 26 ((I48 v0 26) + (1 : Int32)) → (f_X12_number_L18 Z Q n) v0 v1 v2 v3 v4 x53 I54 L49)))))))))))) := h
    obtain ⟨K18, eK18⟩ : ∃ K : Nat → Int32 → Int32 → Int32 → Int32 → Int32 → jI → jL → Prop, K = f_X12_number_L18  Z Q n := ⟨_, rfl⟩
    have hK18 := ih
    clear eK18 K18
    generalize f_X12_number_L18  Z Q n = K18 at hK18 h
    refine j_aload_n E dX12_number_18 0 rfl ?_
    refine j_geti E 12 26 rfl rfl (by decide) (by decide) (iw iT_12) rfl rfl (tw W_705) kv0 dX12_number_19 ?_
    refine j_iload E dX12_number_22 4 rfl ?_
    refine j_iload_n E dX12_number_24 1 rfl ?_
    refine j_iadd E dX12_number_25 ?_
    refine j_icmp_ge E 71 dX12_number_26 (by decide) (fun c30 => ?_) (fun c30 => ?_)
    · have h := h.1 c30
      refine j_sub [0, 2, 3, 4, 5] rfl ?_
      exact m_X12_number_b71 E hZ  v0 v2 v3 v4 v5 I L kv0 h
    · have h := h.2 c30
      refine j_aload_n E dX12_number_29 0 rfl ?_
      refine j_callV E [] [] (c_X12_here (gL G) (gD G) (gY G) v0 Z I L _ hZ kv0 h) (gwV W_712 W_713 W_714 W_695 W_711) rfl ⟨rfl, fy_X12_here⟩ ⟨by decide, by decide⟩ (c := 12) rfl (by decide) kv0 rfl rfl (Nat.le_of_ble_eq_true rfl) ⟨Nat.zero_le _, Nat.zero_le _⟩ dX12_number_30 (fun v31 Z32 I33 L34 q35 => ?_)
      obtain ⟨rfl, r37, rfl, h⟩ := q35
      show jJ G 6 33 [(0, .ref v0), (1, .int v1), (2, .int v2), (3, .int v3), (4, .int v4), (5, .int v5)] [.int r37] Z I33 L34 0 0
      refine j_bipush E (v := 48) dX12_number_33 (by decide) ?_
      refine j_bipush E (v := 57) dX12_number_35 (by decide) ?_
      refine j_callS E [.int r37, .int (48 : Int32), .int (57 : Int32)] [] (c_X12_in (gL G) (gD G) (gY G) r37 (48 : Int32) (57 : Int32) Z I33 L34 _ hZ  h) (gwS W_696 W_697 W_695 W_694) rfl fy_X12_in ⟨by decide, by decide⟩ rfl rfl (Nat.le_of_ble_eq_true rfl) ⟨Nat.zero_le _, Nat.zero_le _⟩ dX12_number_37 (fun v38 Z39 I40 L41 q42 => ?_)
      obtain ⟨rfl, r44, rfl, zr44, h⟩ := q42
      show jJ G 6 40 [(0, .ref v0), (1, .int v1), (2, .int v2), (3, .int v3), (4, .int v4), (5, .int v5)] [.int r44] Z I40 L41 0 0
      refine j_if_eq E 71 dX12_number_40 (by decide) (fun c45 => ?_) (fun c45 => ?_)
      · have h := h.1 c45
        refine j_sub [0, 2, 3, 4, 5] rfl ?_
        exact m_X12_number_b71 E hZ  v0 v2 v3 v4 v5 I40 L41 kv0 h
      · have h := h.2 c45
        refine j_bipush E (v := 10) dX12_number_43 (by decide) ?_
        refine j_iload E dX12_number_45 5 rfl ?_
        refine j_imul E dX12_number_47 ?_
        refine j_aload_n E dX12_number_48 0 rfl ?_
        refine j_callV E [] [.int ((10 : Int32) * v5)] (c_X12_here (gL G) (gD G) (gY G) v0 Z I40 L41 _ hZ kv0 h) (gwV W_712 W_713 W_714 W_695 W_711) rfl ⟨rfl, fy_X12_here⟩ ⟨by decide, by decide⟩ (c := 12) rfl (by decide) kv0 rfl rfl (Nat.le_of_ble_eq_true rfl) ⟨Nat.zero_le _, Nat.zero_le _⟩ dX12_number_49 (fun v46 Z47 I48 L49 q50 => ?_)
        obtain ⟨rfl, r52, rfl, h⟩ := q50
        show jJ G 6 52 [(0, .ref v0), (1, .int v1), (2, .int v2), (3, .int v3), (4, .int v4), (5, .int v5)] [.int r52, .int ((10 : Int32) * v5)] Z I48 L49 0 0
        refine j_iadd E dX12_number_52 ?_
        refine j_bipush E (v := 48) dX12_number_53 (by decide) ?_
        refine j_isub E dX12_number_55 ?_
        refine j_topi (fun x53 ex53 => ?_)
        have h := h x53 ex53
        refine j_istore E 5 [(5, .int x53), (0, .ref v0), (1, .int v1), (2, .int v2), (3, .int v3), (4, .int v4)] dX12_number_56 (by decide) rfl ?_
        refine j_aload_n E dX12_number_58 1 rfl ?_
        refine j_dup E dX12_number_59 rfl ?_
        refine j_geti E 12 26 rfl rfl (by decide) (by decide) (iw iT_12) rfl rfl (tw W_705) kv0 dX12_number_60 ?_
        refine j_iconst E (v := 1) dX12_number_63 (by decide) ?_
        refine j_iadd E dX12_number_64 ?_
        refine j_puti E 12 26 rfl rfl (by decide) (by decide) (iw iT_12) tyX12_ok nmX12 rfl rfl (tw W_705) rfl rfl rfl kv0 dX12_number_65 ?_
        refine j_nmI (fun I54 eI54 => ?_)
        have h := h I54 eI54
        refine j_goto E 18 dX12_number_68 (by decide) ?_
        refine j_sub [1, 2, 3, 4, 5, 0] rfl ?_
        exact hK18 v0 v1 v2 v3 v4 x53 I54 L49 kv0 h
set_option maxRecDepth 100000 in
def f_X12_number (v0 : Nat) (v1 : Int32) (v2 : Int32) (v3 : Int32) (Z : jZ) (I : jI) (L : jL) (Q : Int32 → jI → jL → Prop) : Prop := (f_X12_fine v0 Z I L (fun r61 I57 L58 => ((¬ r61 = 0 → (∀ x63 : Int32, x63 = (I57 v0 26) → (∃ m18 : Nat, f_X12_number_L18  Z Q m18 v0 v1 v2 v3 x63 (0 : Int32) I57 L58))) ∧ (r61 = 0 → Q (0 : Int32) I57 L58))))
set_option maxHeartbeats 4000000 in
set_option maxRecDepth 100000 in
theorem c_X12_number (l : Launch) (D : va_G) (cy : jC) (v0 : Nat) (v1 : Int32) (v2 : Int32) (v3 : Int32) (Z : jZ) (I : jI) (L : jL) (Q : Int32 → jI → jL → Prop) (hZ : SH Z) (kv0 : jk Z v0 12) (h : f_X12_number v0 v1 v2 v3 Z I L Q) : jCt l yX12_number w_X12_number { frames := 2, cells := 0, slots := 0, locals := 41 } D cy [.ref v0, .int v1, .int v2, .int v3] Z I L (rtI Z Q) := by
  refine jCt_of (cc := cX12_number) (maxL := 6) (ret := (some .int)) (by decide +kernel) rfl (Nat.le_of_ble_eq_true rfl) ?_
  intro G eD eY eL E
  subst eD; subst eY; subst eL
  have E : jE G cX12_number RX12 w_X12_number 6 (some .int) { frames := 2, cells := 0, slots := 0, locals := 41 } (rtI Z Q) := E
  show jJ G 6 0 [(0, .ref v0), (1, .int v1), (2, .int v2), (3, .int v3)] [] Z I L 0 0
  refine j_aload_n E dX12_number_0 0 rfl ?_
  refine j_callV E [] [] (c_X12_fine (gL G) (gD G) (gY G) v0 Z I L _ hZ kv0 h) (gwV W_708 W_709 W_710 W_695 W_707) rfl ⟨rfl, fy_X12_fine⟩ ⟨by decide, by decide⟩ (c := 12) rfl (by decide) kv0 rfl rfl (Nat.le_of_ble_eq_true rfl) ⟨Nat.zero_le _, Nat.zero_le _⟩ dX12_number_1 (fun v55 Z56 I57 L58 q59 => ?_)
  obtain ⟨rfl, r61, rfl, zr61, h⟩ := q59
  show jJ G 6 4 [(0, .ref v0), (1, .int v1), (2, .int v2), (3, .int v3)] [.int r61] Z I57 L58 0 0
  refine j_if_ne E 9 dX12_number_4 (by decide) (fun c62 => ?_) (fun c62 => ?_)
  · have h := h.1 c62
    refine j_aload_n E dX12_number_9 0 rfl ?_
    refine j_geti E 12 26 rfl rfl (by decide) (by decide) (iw iT_12) rfl rfl (tw W_705) kv0 dX12_number_10 ?_
    refine j_topi (fun x63 ex63 => ?_)
    have h := h x63 ex63
    refine j_istore E 4 [(4, .int x63), (0, .ref v0), (1, .int v1), (2, .int v2), (3, .int v3)] dX12_number_13 (by decide) rfl ?_
    refine j_iconst E (v := 0) dX12_number_15 (by decide) ?_
    refine j_istore E 5 [(5, .int (0 : Int32)), (4, .int x63), (0, .ref v0), (1, .int v1), (2, .int v2), (3, .int v3)] dX12_number_16 (by decide) rfl ?_
    obtain ⟨n64, h⟩ := h
    refine j_sub [2, 3, 4, 5, 1, 0] rfl ?_
    exact m_X12_number_L18 E hZ  n64 v0 v1 v2 v3 x63 (0 : Int32) I57 L58 kv0 h
  · have h := h.2 c62
    refine j_iconst E (v := 0) dX12_number_7 (by decide) ?_
    exact j_ireturn E ⟨rfl, _, rfl, h⟩ (Nat.zero_le _) (Nat.zero_le _) dX12_number_8
