set_option maxRecDepth 100000 in
def f_X11_bears_L25 (B : Nat × Nat)  (Q : Int32 → jZ → jI → jL → Prop) : Nat → Nat → Nat → Int32 → jZ → jI → jL → Prop
  | 0 => fun _ _ _ _ _ _ => False
  | n + 1 => fun v0 v2 v3 Z I L => ((v3 < 0 → Q (-2 : Int32) Z I L) ∧ (¬ (v3 < 0) → (∀ b2 : Nat, jr Z v2 8 = some b2 → (f_X6_lay b2 v3 (I v2 4) (-1 : Int32) Z I L (fun I5 L6 => (∀ b9 : Nat, jr Z v2 8 = some b9 → (f_X6_cheapest B b9 Z I5 L6 (fun r16 Z11 I12 L13 => (((lg_cmp r16 (9223372036854775807 : Int64)) = 0 → (∀ x20 : Int32, x20 = v3 + (-1) → (f_X11_bears_L25 B Q n) v0 v2 x20 Z11 I12 L13)) ∧ (¬ ((lg_cmp r16 (9223372036854775807 : Int64)) = 0) → (f_X11_costIn r16 Z11 I12 L13 (fun r27 I23 L24 => (f_X11_tellOne v0 (r27.toInt64) Z11 I23 L24 (fun I30 L31 => Q v3 Z11 I30 L31))))))))))))))
set_option maxHeartbeats 4000000 in
set_option maxRecDepth 100000 in
theorem m_X11_bears_L25 {G : jG} {Z0 : jZ} {B : Nat × Nat} {Q : Int32 → jZ → jI → jL → Prop} (E : jE G cX11_bears RX11 w_X11_bears 6 (some .int) (jrm B 7 183 Z0) jRF) (EU : jEU G B Z0 (urtI B Z0 Q))  : ∀ (n : Nat) (v0 : Nat) (v2 : Nat) (v3 : Int32) (Z : jZ) (I : jI) (L : jL), SH Z → jext Z0 Z → jle Z0 Z → jin B Z → jk Z v0 11 → jk Z v2 5 → f_X11_bears_L25 B  Q n v0 v2 v3 Z I L → jJ G 6 25 [(0, .ref v0), (2, .ref v2), (3, .int v3)] [] Z I L (jcz Z - jcz Z0) (jsz Z - jsz Z0) := by
  intro n
  induction n with
  | zero => intro v0 v2 v3 Z I L _ _ _ _ _ _ h; exact h.elim
  | succ n ih =>
    intro v0 v2 v3 Z I L hZ hx hc hb kv0 kv2 h
    have h : ((v3 < 0 → Q (-2 : Int32) Z I L) ∧ (¬ (v3 < 0) → (∀ b2 : Nat, jr Z v2 8 = some b2 → (f_X6_lay b2 v3 (I v2 4) (-1 : Int32) Z I L (fun I5 L6 => (∀ b9 : Nat, jr Z v2 8 = some b9 → (f_X6_cheapest B b9 Z I5 L6 (fun r16 Z11 I12 L13 => (((lg_cmp r16 (9223372036854775807 : Int64)) = 0 → (∀ x20 : Int32, x20 = v3 + (-1) → (f_X11_bears_L25 B Q n) v0 v2 x20 Z11 I12 L13)) ∧ (¬ ((lg_cmp r16 (9223372036854775807 : Int64)) = 0) → (f_X11_costIn r16 Z11 I12 L13 (fun r27 I23 L24 => (f_X11_tellOne v0 (r27.toInt64) Z11 I23 L24 (fun I30 L31 => Q v3 Z11 I30 L31)))))))))))))) := h
    obtain ⟨K25, eK25⟩ : ∃ K : Nat → Nat → Int32 → jZ → jI → jL → Prop, K = f_X11_bears_L25 B  Q n := ⟨_, rfl⟩
    have hK25 := ih
    clear eK25 K25
    generalize f_X11_bears_L25 B  Q n = K25 at hK25 h
    refine j_iload_n E dX11_bears_25 2 rfl ?_
    refine j_if_lt E 78 dX11_bears_26 (by decide) (fun c1 => ?_) (fun c1 => ?_)
    · have h := h.1 c1
      refine j_bipush E (v := -2) dX11_bears_78 (by decide) ?_
      exact ju_ireturn E EU hc hb ⟨hx, hZ, hb, _, rfl, h⟩ dX11_bears_80
    · have h := h.2 c1
      refine j_aload_n E dX11_bears_29 1 rfl ?_
      obtain ⟨b2, eb2, kb2⟩ := sh_o hZ kv2 (j := 8) (k := 6) rfl
      have h := h b2 eb2
      refine j_getrN E 5 8 rfl rfl (by decide) (by decide) (iw iT_5) rfl rfl (nw_5_8_X11_263) kv2 eb2 dX11_bears_30 ?_
      refine j_iload_n E dX11_bears_33 2 rfl ?_
      refine j_aload_n E dX11_bears_34 1 rfl ?_
      refine j_getiN E 5 4 rfl rfl (by decide) (by decide) (iw iT_5) rfl rfl (nw_5_4_X11_196) kv2 dX11_bears_35 ?_
      refine j_iconst E (v := -1) dX11_bears_38 (by decide) ?_
      refine j_callV E [.int v3, .int (I v2 4), .int (-1 : Int32)] [] (c_X6_lay (gL G) (gD G) (gY G) b2 v3 (I v2 4) (-1 : Int32) Z I L _ hZ kb2 h) (gwV W_532 W_533 W_534 W_33 W_531) rfl ⟨rfl, fy_X6_lay⟩ ⟨Nat.le_of_ble_eq_true rfl, Nat.le_of_ble_eq_true rfl⟩ (c := 6) rfl (by decide) kb2 rfl rfl (Nat.le_of_ble_eq_true rfl) (ju_kn hb) dX11_bears_39 (fun v3 Z4 I5 L6 q7 => ?_)
      obtain ⟨rfl, rfl, h⟩ := q7
      show jJ G 6 42 [(0, .ref v0), (2, .ref v2), (3, .int v3)] [] Z I5 L6 (jcz Z - jcz Z0) (jsz Z - jsz Z0)
      refine j_aload_n E dX11_bears_42 1 rfl ?_
      obtain ⟨b9, eb9, kb9⟩ := sh_o hZ kv2 (j := 8) (k := 6) rfl
      have h := h b9 eb9
      refine j_getrN E 5 8 rfl rfl (by decide) (by decide) (iw iT_5) rfl rfl (nw_5_8_X11_263) kv2 eb9 dX11_bears_43 ?_
      refine ju_callV E [] [] (c_X6_cheapest (gL G) (gD G) (gY G) B b9 Z I5 L6 _ hZ hb kb9 h) (gwV W_536 W_537 W_538 W_33 W_535) rfl ⟨rfl, fy_X6_cheapest⟩ ⟨Nat.le_of_ble_eq_true rfl, Nat.le_of_ble_eq_true rfl⟩ (c := 6) rfl (by decide) kb9 rfl rfl (Nat.le_of_ble_eq_true rfl) (ju_f hc hb) dX11_bears_46 (fun v10 Z11 I12 L13 q14 j15 => ?_)
      refine ju_next hc j15 ?_
      have hc := jle_trans hc j15
      obtain ⟨yZ11, hZ11, hbZ11, r16, rfl, h⟩ := q14
      have hZ := hZ11
      have hx : jext Z0 Z11 := jext_trans hx yZ11
      have hb := hbZ11
      have k17 := (yZ11 _ _ kv0).1
      have k18 := (yZ11 _ _ kv2).1
      show jJ G 6 49 [(0, .ref v0), (2, .ref v2), (3, .int v3)] [.long r16] Z11 I12 L13 (jcz Z11 - jcz Z0) (jsz Z11 - jsz Z0)
      refine j_lstore E 4 [(4, .long r16), (0, .ref v0), (2, .ref v2), (3, .int v3)] dX11_bears_49 (by decide) rfl ?_
      refine j_lload E dX11_bears_51 0 rfl ?_
      refine j_ldc2 E (tw W_539) dX11_bears_53 ?_
      refine j_lcmp E dX11_bears_56 ?_
      refine j_if_eq E 72 dX11_bears_57 (by decide) (fun c19 => ?_) (fun c19 => ?_)
      · have h := h.1 c19
        obtain ⟨x20, ex20⟩ : ∃ y : Int32, y = v3 + (-1) := ⟨_, rfl⟩
        have h := h x20 ex20
        refine j_iinc E x20 [(3, .int x20), (4, .long r16), (0, .ref v0), (2, .ref v2)] dX11_bears_72 3 rfl (by rw [ex20]; rfl) (by decide) rfl ?_
        refine j_goto E 25 dX11_bears_75 (by decide) ?_
        refine j_sub [2, 3, 0] rfl ?_
        exact hK25 v0 v2 x20 Z11 I12 L13 hZ hx hc hb k17 k18 h
      · have h := h.2 c19
        refine j_aload_n E dX11_bears_60 1 rfl ?_
        refine j_lload E dX11_bears_61 0 rfl ?_
        refine j_callS E [.long r16] [.ref v0] (c_X11_costIn (gL G) (gD G) (gY G) r16 Z11 I12 L13 _ hZ  h) (gwS W_529 W_67 W_40 W_66) rfl fy_X11_costIn ⟨Nat.le_of_ble_eq_true rfl, Nat.le_of_ble_eq_true rfl⟩ rfl rfl (Nat.le_of_ble_eq_true rfl) (ju_kn hb) dX11_bears_63 (fun v21 Z22 I23 L24 q25 => ?_)
        obtain ⟨rfl, r27, rfl, h⟩ := q25
        show jJ G 6 66 [(4, .long r16), (0, .ref v0), (2, .ref v2), (3, .int v3)] [.int r27, .ref v0] Z11 I23 L24 (jcz Z11 - jcz Z0) (jsz Z11 - jsz Z0)
        refine j_i2l E dX11_bears_66 ?_
        refine j_callV E [.long (r27.toInt64)] [] (c_X11_tellOne (gL G) (gD G) (gY G) v0 (r27.toInt64) Z11 I23 L24 _ hZ k17 h) (gwV W_492 W_493 W_494 W_40 W_491) rfl ⟨rfl, fy_X11_tellOne⟩ ⟨Nat.le_of_ble_eq_true rfl, Nat.le_of_ble_eq_true rfl⟩ (c := 11) rfl (by decide) k17 rfl rfl (Nat.le_of_ble_eq_true rfl) (ju_kn hb) dX11_bears_67 (fun v28 Z29 I30 L31 q32 => ?_)
        obtain ⟨rfl, rfl, h⟩ := q32
        show jJ G 6 70 [(4, .long r16), (0, .ref v0), (2, .ref v2), (3, .int v3)] [] Z11 I30 L31 (jcz Z11 - jcz Z0) (jsz Z11 - jsz Z0)
        refine j_iload_n E dX11_bears_70 3 rfl ?_
        exact ju_ireturn E EU hc hb ⟨hx, hZ, hb, _, rfl, h⟩ dX11_bears_71
set_option maxRecDepth 100000 in
def f_X11_bears (B : Nat × Nat) (v0 : Nat) (v1 : Int32) (Z : jZ) (I : jI) (L : jL) (Q : Int32 → jZ → jI → jL → Prop) : Prop := (f_X11_find v0 v1 Z I L (fun r40 I36 L37 => ((r40 = none → Q (-1 : Int32) Z I36 L37) ∧ (∀ b41 : Nat, r40 = some b41 → (∀ b43 : Nat, jr Z v0 2 = some b43 → ((¬ (I36 b43 9) = 0 → (∃ m25 : Nat, f_X11_bears_L25 B  Q m25 v0 b41 (50 : Int32) Z I36 L37)) ∧ ((I36 b43 9) = 0 → Q (-1 : Int32) Z I36 L37)))))))
set_option maxHeartbeats 4000000 in
set_option maxRecDepth 100000 in
theorem c_X11_bears (l : Launch) (D : va_G) (cy : jC) (B : Nat × Nat) (v0 : Nat) (v1 : Int32) (Z : jZ) (I : jI) (L : jL) (Q : Int32 → jZ → jI → jL → Prop) (hZ : SH Z) (hb : jin B Z) (kv0 : jk Z v0 11) (h : f_X11_bears B v0 v1 Z I L Q) : jCtU l yX11_bears w_X11_bears B 7 183 D cy [.ref v0, .int v1] Z I L (urtI B Z Q) := by
  refine jCtU_of (cc := cX11_bears) (maxL := 6) (ret := (some .int)) (by decide +kernel) rfl (Nat.le_of_ble_eq_true rfl) ?_
  intro G eD eY eL E EU
  subst eD; subst eY; subst eL
  have E : jE G cX11_bears RX11 w_X11_bears 6 (some .int) (jrm B 7 183 Z) jRF := E
  have hx : jext Z Z := jext_rfl
  have hc : jle Z Z := jle_rfl
  show jJ G 6 0 [(0, .ref v0), (1, .int v1)] [] Z I L (jcz Z - jcz Z) (jsz Z - jsz Z)
  refine j_aload_n E dX11_bears_0 0 rfl ?_
  refine j_iload_n E dX11_bears_1 1 rfl ?_
  refine j_callV E [.int v1] [] (c_X11_find (gL G) (gD G) (gY G) v0 v1 Z I L _ hZ kv0 h) (gwV W_437 W_438 W_439 W_40 W_436) rfl ⟨rfl, fy_X11_find⟩ ⟨Nat.le_of_ble_eq_true rfl, Nat.le_of_ble_eq_true rfl⟩ (c := 11) rfl (by decide) kv0 rfl rfl (Nat.le_of_ble_eq_true rfl) (ju_kn hb) dX11_bears_2 (fun v34 Z35 I36 L37 q38 => ?_)
  obtain ⟨rfl, r40, rfl, zr40, h⟩ := q38
  show jJ G 6 5 [(0, .ref v0), (1, .int v1)] (va_rf r40 :: []) Z I36 L37 (jcz Z - jcz Z) (jsz Z - jsz Z)
  rcases c42 : r40 with _ | b41
  · have h := h.1 c42
    refine j_rfN rfl ?_
    refine j_astore_nN E 2 [(2, .null), (0, .ref v0), (1, .int v1)] dX11_bears_5 rfl (by decide) rfl ?_
    refine j_aload_nN E dX11_bears_6 0 rfl ?_
    refine j_ifnullN E 20 dX11_bears_7 (by decide) ?_
    refine j_iconst E (v := -1) dX11_bears_20 (by decide) ?_
    exact ju_ireturn E EU hc hb ⟨hx, hZ, hb, _, rfl, h⟩ dX11_bears_21
  · have h := h.2 b41 c42
    have kb41 := zr40 b41 c42
    refine j_rfS rfl ?_
    refine j_astore_n E 2 [(2, .ref b41), (0, .ref v0), (1, .int v1)] dX11_bears_5 rfl (by decide) rfl ?_
    refine j_aload_n E dX11_bears_6 0 rfl ?_
    refine j_ifnull E dX11_bears_7 ?_
    refine j_aload_n E dX11_bears_10 1 rfl ?_
    obtain ⟨b43, eb43, kb43⟩ := sh_o hZ kv0 (j := 2) (k := 8) rfl
    have h := h b43 eb43
    refine j_getr E 11 2 rfl rfl (by decide) (by decide) (iw iT_11) rfl rfl (tw W_454) kv0 eb43 dX11_bears_11 ?_
    refine j_getiN E 8 9 rfl rfl (by decide) (by decide) (iw iT_8) rfl rfl (nw_8_9_X11_172) kb43 dX11_bears_14 ?_
    refine j_if_ne E 22 dX11_bears_17 (by decide) (fun c44 => ?_) (fun c44 => ?_)
    · have h := h.1 c44
      refine j_bipush E (v := 50) dX11_bears_22 (by decide) ?_
      refine j_istore_n E 3 [(3, .int (50 : Int32)), (2, .ref b41), (0, .ref v0), (1, .int v1)] dX11_bears_24 rfl (by decide) rfl ?_
      obtain ⟨n45, h⟩ := h
      refine j_sub [2, 1, 0] rfl ?_
      exact m_X11_bears_L25 E EU  n45 v0 b41 (50 : Int32) Z I36 L37 hZ hx hc hb kv0 kb41 h
    · have h := h.2 c44
      refine j_iconst E (v := -1) dX11_bears_20 (by decide) ?_
      exact ju_ireturn E EU hc hb ⟨hx, hZ, hb, _, rfl, h⟩ dX11_bears_21
set_option maxRecDepth 100000 in
def f_X11_breaks_b179 (B : Nat × Nat)  (Q : Int32 → jZ → jI → jL → Prop) (v3 : Int32) (s0 : Nat) (s1 : Int64) (s2 : Int64) (Z : jZ) (I : jI) (L : jL) : Prop := (f_X11_tellTwo s0 s1 s2 Z I L (fun I3 L4 => Q v3 Z I3 L4))
set_option maxHeartbeats 4000000 in
set_option maxRecDepth 100000 in
theorem m_X11_breaks_b179 {G : jG} {B : Nat × Nat} {Z0 : jZ} {Q : Int32 → jZ → jI → jL → Prop} (E : jE G cX11_breaks RX11 w_X11_breaks 8 (some .int) (jrm B 7 183 Z0) jRF) (EU : jEU G B Z0 (urtI B Z0 Q))  (v3 : Int32) (s0 : Nat) (s1 : Int64) (s2 : Int64) (Z : jZ) (I : jI) (L : jL) (hZ : SH Z) (hx : jext Z0 Z) (hc : jle Z0 Z) (hb : jin B Z) (ks0 : jk Z s0 11) (h : f_X11_breaks_b179 B  Q v3 s0 s1 s2 Z I L) : jJ G 8 179 [(3, .int v3)] [.long s2, .long s1, .ref s0] Z I L (jcz Z - jcz Z0) (jsz Z - jsz Z0) := by
  refine j_callV E [.long s1, .long s2] [] (c_X11_tellTwo (gL G) (gD G) (gY G) s0 s1 s2 Z I L _ hZ ks0 h) (gwV W_501 W_502 W_503 W_40 W_500) rfl ⟨rfl, fy_X11_tellTwo⟩ ⟨Nat.le_of_ble_eq_true rfl, Nat.le_of_ble_eq_true rfl⟩ (c := 11) rfl (by decide) ks0 rfl rfl (Nat.le_of_ble_eq_true rfl) (ju_kn hb) dX11_breaks_179 (fun v1 Z2 I3 L4 q5 => ?_)
  obtain ⟨rfl, rfl, h⟩ := q5
  show jJ G 8 182 [(3, .int v3)] [] Z I3 L4 (jcz Z - jcz Z0) (jsz Z - jsz Z0)
  refine j_iload_n E dX11_breaks_182 0 rfl ?_
  exact ju_ireturn E EU hc hb ⟨hx, hZ, hb, _, rfl, h⟩ dX11_breaks_183
set_option maxRecDepth 100000 in
def f_X11_breaks_b117 (B : Nat × Nat) (K31 : Nat → Nat → Int32 → Int32 → Int32 → jZ → jI → jL → Prop) (Q : Int32 → jZ → jI → jL → Prop) (v0 : Nat) (v2 : Nat) (v3 : Int32) (v4 : Int32) (v5 : Int32) (Z : jZ) (I : jI) (L : jL) : Prop := (∀ x7 : Int32, x7 = v5 + 1 → K31 v0 v2 v3 v4 x7 Z I L)
set_option maxHeartbeats 4000000 in
set_option maxRecDepth 100000 in
theorem m_X11_breaks_b117 {G : jG} {B : Nat × Nat} {Z0 : jZ} {Q : Int32 → jZ → jI → jL → Prop} (E : jE G cX11_breaks RX11 w_X11_breaks 8 (some .int) (jrm B 7 183 Z0) jRF) (EU : jEU G B Z0 (urtI B Z0 Q)) (K31 : Nat → Nat → Int32 → Int32 → Int32 → jZ → jI → jL → Prop) (hK31 : ∀ (v0 : Nat) (v2 : Nat) (v3 : Int32) (v4 : Int32) (v5 : Int32) (Z : jZ) (I : jI) (L : jL), SH Z → jext Z0 Z → jle Z0 Z → jin B Z → jk Z v0 11 → jk Z v2 5 → K31 v0 v2 v3 v4 v5 Z I L → jJ G 8 31 [(0, .ref v0), (2, .ref v2), (3, .int v3), (4, .int v4), (5, .int v5)] [] Z I L (jcz Z - jcz Z0) (jsz Z - jsz Z0)) (v0 : Nat) (v2 : Nat) (v3 : Int32) (v4 : Int32) (v5 : Int32) (Z : jZ) (I : jI) (L : jL) (hZ : SH Z) (hx : jext Z0 Z) (hc : jle Z0 Z) (hb : jin B Z) (kv0 : jk Z v0 11) (kv2 : jk Z v2 5) (h : f_X11_breaks_b117 B K31 Q v0 v2 v3 v4 v5 Z I L) : jJ G 8 117 [(0, .ref v0), (2, .ref v2), (3, .int v3), (4, .int v4), (5, .int v5)] [] Z I L (jcz Z - jcz Z0) (jsz Z - jsz Z0) := by
  obtain ⟨x7, ex7⟩ : ∃ y : Int32, y = v5 + 1 := ⟨_, rfl⟩
  have h := h x7 ex7
  refine j_iinc E x7 [(5, .int x7), (0, .ref v0), (2, .ref v2), (3, .int v3), (4, .int v4)] dX11_breaks_117 4 rfl (by rw [ex7]; rfl) (by decide) rfl ?_
  refine j_goto E 31 dX11_breaks_120 (by decide) ?_
  refine j_sub [1, 2, 3, 4, 0] rfl ?_
  exact hK31 v0 v2 v3 v4 x7 Z I L hZ hx hc hb kv0 kv2 h
set_option maxRecDepth 100000 in
def f_X11_breaks_b107 (B : Nat × Nat) (K31 : Nat → Nat → Int32 → Int32 → Int32 → jZ → jI → jL → Prop) (Q : Int32 → jZ → jI → jL → Prop) (v0 : Nat) (v2 : Nat) (v5 : Int32) (v6 : Int64) (Z : jZ) (I : jI) (L : jL) : Prop := (f_X11_costIn v6 Z I L (fun r14 I10 L11 => f_X11_breaks_b117 B K31 Q v0 v2 v5 r14 v5 Z I10 L11))
set_option maxHeartbeats 4000000 in
set_option maxRecDepth 100000 in
theorem m_X11_breaks_b107 {G : jG} {B : Nat × Nat} {Z0 : jZ} {Q : Int32 → jZ → jI → jL → Prop} (E : jE G cX11_breaks RX11 w_X11_breaks 8 (some .int) (jrm B 7 183 Z0) jRF) (EU : jEU G B Z0 (urtI B Z0 Q)) (K31 : Nat → Nat → Int32 → Int32 → Int32 → jZ → jI → jL → Prop) (hK31 : ∀ (v0 : Nat) (v2 : Nat) (v3 : Int32) (v4 : Int32) (v5 : Int32) (Z : jZ) (I : jI) (L : jL), SH Z → jext Z0 Z → jle Z0 Z → jin B Z → jk Z v0 11 → jk Z v2 5 → K31 v0 v2 v3 v4 v5 Z I L → jJ G 8 31 [(0, .ref v0), (2, .ref v2), (3, .int v3), (4, .int v4), (5, .int v5)] [] Z I L (jcz Z - jcz Z0) (jsz Z - jsz Z0)) (v0 : Nat) (v2 : Nat) (v5 : Int32) (v6 : Int64) (Z : jZ) (I : jI) (L : jL) (hZ : SH Z) (hx : jext Z0 Z) (hc : jle Z0 Z) (hb : jin B Z) (kv0 : jk Z v0 11) (kv2 : jk Z v2 5) (h : f_X11_breaks_b107 B K31 Q v0 v2 v5 v6 Z I L) : jJ G 8 107 [(0, .ref v0), (2, .ref v2), (5, .int v5), (6, .long v6)] [] Z I L (jcz Z - jcz Z0) (jsz Z - jsz Z0) := by
  refine j_iload E dX11_breaks_107 2 rfl ?_
  refine j_istore_n E 3 [(3, .int v5), (0, .ref v0), (2, .ref v2), (5, .int v5), (6, .long v6)] dX11_breaks_109 rfl (by decide) rfl ?_
  refine j_lload E dX11_breaks_110 4 rfl ?_
  refine j_callS E [.long v6] [] (c_X11_costIn (gL G) (gD G) (gY G) v6 Z I L _ hZ  h) (gwS W_529 W_67 W_40 W_66) rfl fy_X11_costIn ⟨Nat.le_of_ble_eq_true rfl, Nat.le_of_ble_eq_true rfl⟩ rfl rfl (Nat.le_of_ble_eq_true rfl) (ju_kn hb) dX11_breaks_112 (fun v8 Z9 I10 L11 q12 => ?_)
  obtain ⟨rfl, r14, rfl, h⟩ := q12
  show jJ G 8 115 [(3, .int v5), (0, .ref v0), (2, .ref v2), (5, .int v5), (6, .long v6)] [.int r14] Z I10 L11 (jcz Z - jcz Z0) (jsz Z - jsz Z0)
  refine j_istore E 4 [(4, .int r14), (3, .int v5), (0, .ref v0), (2, .ref v2), (5, .int v5), (6, .long v6)] dX11_breaks_115 (by decide) rfl ?_
  refine j_sub [2, 3, 1, 0, 4] rfl ?_
  exact m_X11_breaks_b117 E EU K31 hK31 v0 v2 v5 r14 v5 Z I10 L11 hZ hx hc hb kv0 kv2 h
set_option maxRecDepth 100000 in
def f_X11_breaks_L31 (B : Nat × Nat)  (Q : Int32 → jZ → jI → jL → Prop) : Nat → Nat → Nat → Int32 → Int32 → Int32 → jZ → jI → jL → Prop
  | 0 => fun _ _ _ _ _ _ _ _ => False
  | n + 1 => fun v0 v2 v3 v4 v5 Z I L => (((8 : Int32) ≤ v5 → ((v3 = (-2 : Int32) → Q v3 Z I L) ∧ (¬ (v3 = (-2 : Int32)) → (∀ b17 : Nat, jr Z v2 8 = some b17 → (f_X6_lay b17 (I v2 3) (I v2 4) (-1 : Int32) Z I L (fun I20 L21 => (∀ b24 : Nat, jr Z v2 8 = some b24 → (f_X6_cheapest B b24 Z I20 L21 (fun r31 Z26 I27 L28 => ((¬ (lg_cmp r31 (9223372036854775807 : Int64)) = 0 → (f_X11_costIn r31 Z26 I27 L28 (fun r41 I37 L38 => f_X11_breaks_b179 B  Q v3 v0 (v4.toInt64) (r41.toInt64) Z26 I37 L38))) ∧ ((lg_cmp r31 (9223372036854775807 : Int64)) = 0 → f_X11_breaks_b179 B  Q v3 v0 (v4.toInt64) (-1 : Int64) Z26 I27 L28))))))))))) ∧ (¬ ((8 : Int32) ≤ v5) → (f_X5_vowsAgainst v2 v5 Z I L (fun r48 I44 L45 => ((¬ r48 = 0 → (∀ b50 : Nat, jr Z v2 8 = some b50 → (f_X6_lay b50 (I44 v2 3) ((I44 v2 4) &&& (((1 : Int32) <<< (v5 &&& 31)) ^^^ (-1 : Int32))) (-1 : Int32) Z I44 L45 (fun I53 L54 => (∀ b57 : Nat, jr Z v2 8 = some b57 → (f_X6_cheapest B b57 Z I53 L54 (fun r64 Z59 I60 L61 => (((lg_cmp r64 (9223372036854775807 : Int64)) = 0 → f_X11_breaks_b117 B (f_X11_breaks_L31 B Q n) Q v0 v2 v3 v4 v5 Z59 I60 L61) ∧ (¬ ((lg_cmp r64 (9223372036854775807 : Int64)) = 0) → ((v3 = (-2 : Int32) → f_X11_breaks_b107 B (f_X11_breaks_L31 B Q n) Q v0 v2 v5 r64 Z59 I60 L61) ∧ (¬ (v3 = (-2 : Int32)) → (f_X11_costIn r64 Z59 I60 L61 (fun r75 I71 L72 => ((v4 ≤ r75 → f_X11_breaks_b117 B (f_X11_breaks_L31 B Q n) Q v0 v2 v3 v4 v5 Z59 I71 L72) ∧ (¬ (v4 ≤ r75) → f_X11_breaks_b107 B (f_X11_breaks_L31 B Q n) Q v0 v2 v5 r64 Z59 I71 L72))))))))))))))) ∧ (r48 = 0 → f_X11_breaks_b117 B (f_X11_breaks_L31 B Q n) Q v0 v2 v3 v4 v5 Z I44 L45))))))
set_option maxHeartbeats 4000000 in
set_option maxRecDepth 100000 in
theorem m_X11_breaks_L31 {G : jG} {Z0 : jZ} {B : Nat × Nat} {Q : Int32 → jZ → jI → jL → Prop} (E : jE G cX11_breaks RX11 w_X11_breaks 8 (some .int) (jrm B 7 183 Z0) jRF) (EU : jEU G B Z0 (urtI B Z0 Q))  : ∀ (n : Nat) (v0 : Nat) (v2 : Nat) (v3 : Int32) (v4 : Int32) (v5 : Int32) (Z : jZ) (I : jI) (L : jL), SH Z → jext Z0 Z → jle Z0 Z → jin B Z → jk Z v0 11 → jk Z v2 5 → f_X11_breaks_L31 B  Q n v0 v2 v3 v4 v5 Z I L → jJ G 8 31 [(0, .ref v0), (2, .ref v2), (3, .int v3), (4, .int v4), (5, .int v5)] [] Z I L (jcz Z - jcz Z0) (jsz Z - jsz Z0) := by
  intro n
  induction n with
  | zero => intro v0 v2 v3 v4 v5 Z I L _ _ _ _ _ _ h; exact h.elim
  | succ n ih =>
    intro v0 v2 v3 v4 v5 Z I L hZ hx hc hb kv0 kv2 h
    have h : (((8 : Int32) ≤ v5 → ((v3 = (-2 : Int32) → Q v3 Z I L) ∧ (¬ (v3 = (-2 : Int32)) → (∀ b17 : Nat, jr Z v2 8 = some b17 → (f_X6_lay b17 (I v2 3) (I v2 4) (-1 : Int32) Z I L (fun I20 L21 => (∀ b24 : Nat, jr Z v2 8 = some b24 → (f_X6_cheapest B b24 Z I20 L21 (fun r31 Z26 I27 L28 => ((¬ (lg_cmp r31 (9223372036854775807 : Int64)) = 0 → (f_X11_costIn r31 Z26 I27 L28 (fun r41 I37 L38 => f_X11_breaks_b179 B  Q v3 v0 (v4.toInt64) (r41.toInt64) Z26 I37 L38))) ∧ ((lg_cmp r31 (9223372036854775807 : Int64)) = 0 → f_X11_breaks_b179 B  Q v3 v0 (v4.toInt64) (-1 : Int64) Z26 I27 L28))))))))))) ∧ (¬ ((8 : Int32) ≤ v5) → (f_X5_vowsAgainst v2 v5 Z I L (fun r48 I44 L45 => ((¬ r48 = 0 → (∀ b50 : Nat, jr Z v2 8 = some b50 → (f_X6_lay b50 (I44 v2 3) ((I44 v2 4) &&& (((1 : Int32) <<< (v5 &&& 31)) ^^^ (-1 : Int32))) (-1 : Int32) Z I44 L45 (fun I53 L54 => (∀ b57 : Nat, jr Z v2 8 = some b57 → (f_X6_cheapest B b57 Z I53 L54 (fun r64 Z59 I60 L61 => (((lg_cmp r64 (9223372036854775807 : Int64)) = 0 → f_X11_breaks_b117 B (f_X11_breaks_L31 B Q n) Q v0 v2 v3 v4 v5 Z59 I60 L61) ∧ (¬ ((lg_cmp r64 (9223372036854775807 : Int64)) = 0) → ((v3 = (-2 : Int32) → f_X11_breaks_b107 B (f_X11_breaks_L31 B Q n) Q v0 v2 v5 r64 Z59 I60 L61) ∧ (¬ (v3 = (-2 : Int32)) → (f_X11_costIn r64 Z59 I60 L61 (fun r75 I71 L72 => ((v4 ≤ r75 → f_X11_breaks_b117 B (f_X11_breaks_L31 B Q n) Q v0 v2 v3 v4 v5 Z59 I71 L72) ∧ (¬ (v4 ≤ r75) → f_X11_breaks_b107 B (f_X11_breaks_L31 B Q n) Q v0 v2 v5 r64 Z59 I71 L72))))))))))))))) ∧ (r48 = 0 → f_X11_breaks_b117 B (f_X11_breaks_L31 B Q n) Q v0 v2 v3 v4 v5 Z I44 L45)))))) := h
    obtain ⟨K31, eK31⟩ : ∃ K : Nat → Nat → Int32 → Int32 → Int32 → jZ → jI → jL → Prop, K = f_X11_breaks_L31 B  Q n := ⟨_, rfl⟩
    have hK31 := ih
    clear eK31 K31
    generalize f_X11_breaks_L31 B  Q n = K31 at hK31 h
    refine j_iload E dX11_breaks_31 4 rfl ?_
    refine j_bipush E (v := 8) dX11_breaks_33 (by decide) ?_
    refine j_icmp_ge E 123 dX11_breaks_35 (by decide) (fun c15 => ?_) (fun c15 => ?_)
    · have h := h.1 c15
      refine j_iload_n E dX11_breaks_123 2 rfl ?_
      refine j_bipush E (v := -2) dX11_breaks_124 (by decide) ?_
      refine j_icmp_eq E 182 dX11_breaks_126 (by decide) (fun c16 => ?_) (fun c16 => ?_)
      · have h := h.1 c16
        refine j_iload_n E dX11_breaks_182 2 rfl ?_
        exact ju_ireturn E EU hc hb ⟨hx, hZ, hb, _, rfl, h⟩ dX11_breaks_183
      · have h := h.2 c16
        refine j_aload_n E dX11_breaks_129 1 rfl ?_
        obtain ⟨b17, eb17, kb17⟩ := sh_o hZ kv2 (j := 8) (k := 6) rfl
        have h := h b17 eb17
        refine j_getrN E 5 8 rfl rfl (by decide) (by decide) (iw iT_5) rfl rfl (nw_5_8_X11_263) kv2 eb17 dX11_breaks_130 ?_
        refine j_aload_n E dX11_breaks_133 1 rfl ?_
        refine j_getiN E 5 3 rfl rfl (by decide) (by decide) (iw iT_5) rfl rfl (nw_5_3_X11_213) kv2 dX11_breaks_134 ?_
        refine j_aload_n E dX11_breaks_137 1 rfl ?_
        refine j_getiN E 5 4 rfl rfl (by decide) (by decide) (iw iT_5) rfl rfl (nw_5_4_X11_196) kv2 dX11_breaks_138 ?_
        refine j_iconst E (v := -1) dX11_breaks_141 (by decide) ?_
        refine j_callV E [.int (I v2 3), .int (I v2 4), .int (-1 : Int32)] [] (c_X6_lay (gL G) (gD G) (gY G) b17 (I v2 3) (I v2 4) (-1 : Int32) Z I L _ hZ kb17 h) (gwV W_532 W_533 W_534 W_33 W_531) rfl ⟨rfl, fy_X6_lay⟩ ⟨Nat.le_of_ble_eq_true rfl, Nat.le_of_ble_eq_true rfl⟩ (c := 6) rfl (by decide) kb17 rfl rfl (Nat.le_of_ble_eq_true rfl) (ju_kn hb) dX11_breaks_142 (fun v18 Z19 I20 L21 q22 => ?_)
        obtain ⟨rfl, rfl, h⟩ := q22
        show jJ G 8 145 [(0, .ref v0), (2, .ref v2), (3, .int v3), (4, .int v4), (5, .int v5)] [] Z I20 L21 (jcz Z - jcz Z0) (jsz Z - jsz Z0)
        refine j_aload_n E dX11_breaks_145 1 rfl ?_
        obtain ⟨b24, eb24, kb24⟩ := sh_o hZ kv2 (j := 8) (k := 6) rfl
        have h := h b24 eb24
        refine j_getrN E 5 8 rfl rfl (by decide) (by decide) (iw iT_5) rfl rfl (nw_5_8_X11_263) kv2 eb24 dX11_breaks_146 ?_
        refine ju_callV E [] [] (c_X6_cheapest (gL G) (gD G) (gY G) B b24 Z I20 L21 _ hZ hb kb24 h) (gwV W_536 W_537 W_538 W_33 W_535) rfl ⟨rfl, fy_X6_cheapest⟩ ⟨Nat.le_of_ble_eq_true rfl, Nat.le_of_ble_eq_true rfl⟩ (c := 6) rfl (by decide) kb24 rfl rfl (Nat.le_of_ble_eq_true rfl) (ju_f hc hb) dX11_breaks_149 (fun v25 Z26 I27 L28 q29 j30 => ?_)
        refine ju_next hc j30 ?_
        have hc := jle_trans hc j30
        obtain ⟨yZ26, hZ26, hbZ26, r31, rfl, h⟩ := q29
        have hZ := hZ26
        have hx : jext Z0 Z26 := jext_trans hx yZ26
        have hb := hbZ26
        have k32 := (yZ26 _ _ kv0).1
        have k33 := (yZ26 _ _ kv2).1
        show jJ G 8 152 [(0, .ref v0), (2, .ref v2), (3, .int v3), (4, .int v4), (5, .int v5)] [.long r31] Z26 I27 L28 (jcz Z26 - jcz Z0) (jsz Z26 - jsz Z0)
        refine j_lstore E 5 [(5, .long r31), (0, .ref v0), (2, .ref v2), (3, .int v3), (4, .int v4)] dX11_breaks_152 (by decide) rfl ?_
        refine j_aload_n E dX11_breaks_154 1 rfl ?_
        refine j_iload E dX11_breaks_155 4 rfl ?_
        refine j_i2l E dX11_breaks_157 ?_
        refine j_lload E dX11_breaks_158 0 rfl ?_
        refine j_ldc2 E (tw W_539) dX11_breaks_160 ?_
        refine j_lcmp E dX11_breaks_163 ?_
        refine j_if_ne E 173 dX11_breaks_164 (by decide) (fun c34 => ?_) (fun c34 => ?_)
        · have h := h.1 c34
          refine j_lload E dX11_breaks_173 0 rfl ?_
          refine j_callS E [.long r31] [.long (v4.toInt64), .ref v0] (c_X11_costIn (gL G) (gD G) (gY G) r31 Z26 I27 L28 _ hZ  h) (gwS W_529 W_67 W_40 W_66) rfl fy_X11_costIn ⟨Nat.le_of_ble_eq_true rfl, Nat.le_of_ble_eq_true rfl⟩ rfl rfl (Nat.le_of_ble_eq_true rfl) (ju_kn hb) dX11_breaks_175 (fun v35 Z36 I37 L38 q39 => ?_)
          obtain ⟨rfl, r41, rfl, h⟩ := q39
          show jJ G 8 178 [(5, .long r31), (0, .ref v0), (2, .ref v2), (3, .int v3), (4, .int v4)] [.int r41, .long (v4.toInt64), .ref v0] Z26 I37 L38 (jcz Z26 - jcz Z0) (jsz Z26 - jsz Z0)
          refine j_i2l E dX11_breaks_178 ?_
          refine j_sub [3] rfl ?_
          exact m_X11_breaks_b179 E EU  v3 v0 (v4.toInt64) (r41.toInt64) Z26 I37 L38 hZ hx hc hb k32 h
        · have h := h.2 c34
          refine j_ldc2 E (tw W_549) dX11_breaks_167 ?_
          refine j_goto E 179 dX11_breaks_170 (by decide) ?_
          refine j_sub [3] rfl ?_
          exact m_X11_breaks_b179 E EU  v3 v0 (v4.toInt64) (-1 : Int64) Z26 I27 L28 hZ hx hc hb k32 h
    · have h := h.2 c15
      refine j_aload_n E dX11_breaks_38 1 rfl ?_
      refine j_iload E dX11_breaks_39 4 rfl ?_
      refine j_callV E [.int v5] [] (c_X5_vowsAgainst (gL G) (gD G) (gY G) v2 v5 Z I L _ hZ kv2 h) (gwV W_521 W_522 W_523 W_441 W_520) rfl ⟨rfl, fy_X5_vowsAgainst⟩ ⟨Nat.le_of_ble_eq_true rfl, Nat.le_of_ble_eq_true rfl⟩ (c := 5) rfl (by decide) kv2 rfl rfl (Nat.le_of_ble_eq_true rfl) (ju_kn hb) dX11_breaks_41 (fun v42 Z43 I44 L45 q46 => ?_)
      obtain ⟨rfl, r48, rfl, zr48, h⟩ := q46
      show jJ G 8 44 [(0, .ref v0), (2, .ref v2), (3, .int v3), (4, .int v4), (5, .int v5)] [.int r48] Z I44 L45 (jcz Z - jcz Z0) (jsz Z - jsz Z0)
      refine j_if_ne E 50 dX11_breaks_44 (by decide) (fun c49 => ?_) (fun c49 => ?_)
      · have h := h.1 c49
        refine j_aload_n E dX11_breaks_50 1 rfl ?_
        obtain ⟨b50, eb50, kb50⟩ := sh_o hZ kv2 (j := 8) (k := 6) rfl
        have h := h b50 eb50
        refine j_getrN E 5 8 rfl rfl (by decide) (by decide) (iw iT_5) rfl rfl (nw_5_8_X11_263) kv2 eb50 dX11_breaks_51 ?_
        refine j_aload_n E dX11_breaks_54 1 rfl ?_
        refine j_getiN E 5 3 rfl rfl (by decide) (by decide) (iw iT_5) rfl rfl (nw_5_3_X11_213) kv2 dX11_breaks_55 ?_
        refine j_aload_n E dX11_breaks_58 1 rfl ?_
        refine j_getiN E 5 4 rfl rfl (by decide) (by decide) (iw iT_5) rfl rfl (nw_5_4_X11_196) kv2 dX11_breaks_59 ?_
        refine j_iconst E (v := 1) dX11_breaks_62 (by decide) ?_
        refine j_iload E dX11_breaks_63 4 rfl ?_
        refine j_ishl E dX11_breaks_65 ?_
        refine j_iconst E (v := -1) dX11_breaks_66 (by decide) ?_
        refine j_ixor E dX11_breaks_67 ?_
        refine j_iand E dX11_breaks_68 ?_
        refine j_iconst E (v := -1) dX11_breaks_69 (by decide) ?_
        refine j_callV E [.int (I44 v2 3), .int ((I44 v2 4) &&& (((1 : Int32) <<< (v5 &&& 31)) ^^^ (-1 : Int32))), .int (-1 : Int32)] [] (c_X6_lay (gL G) (gD G) (gY G) b50 (I44 v2 3) ((I44 v2 4) &&& (((1 : Int32) <<< (v5 &&& 31)) ^^^ (-1 : Int32))) (-1 : Int32) Z I44 L45 _ hZ kb50 h) (gwV W_532 W_533 W_534 W_33 W_531) rfl ⟨rfl, fy_X6_lay⟩ ⟨Nat.le_of_ble_eq_true rfl, Nat.le_of_ble_eq_true rfl⟩ (c := 6) rfl (by decide) kb50 rfl rfl (Nat.le_of_ble_eq_true rfl) (ju_kn hb) dX11_breaks_70 (fun v51 Z52 I53 L54 q55 => ?_)
        obtain ⟨rfl, rfl, h⟩ := q55
        show jJ G 8 73 [(0, .ref v0), (2, .ref v2), (3, .int v3), (4, .int v4), (5, .int v5)] [] Z I53 L54 (jcz Z - jcz Z0) (jsz Z - jsz Z0)
        refine j_aload_n E dX11_breaks_73 1 rfl ?_
        obtain ⟨b57, eb57, kb57⟩ := sh_o hZ kv2 (j := 8) (k := 6) rfl
        have h := h b57 eb57
        refine j_getrN E 5 8 rfl rfl (by decide) (by decide) (iw iT_5) rfl rfl (nw_5_8_X11_263) kv2 eb57 dX11_breaks_74 ?_
        refine ju_callV E [] [] (c_X6_cheapest (gL G) (gD G) (gY G) B b57 Z I53 L54 _ hZ hb kb57 h) (gwV W_536 W_537 W_538 W_33 W_535) rfl ⟨rfl, fy_X6_cheapest⟩ ⟨Nat.le_of_ble_eq_true rfl, Nat.le_of_ble_eq_true rfl⟩ (c := 6) rfl (by decide) kb57 rfl rfl (Nat.le_of_ble_eq_true rfl) (ju_f hc hb) dX11_breaks_77 (fun v58 Z59 I60 L61 q62 j63 => ?_)
        refine ju_next hc j63 ?_
        have hc := jle_trans hc j63
        obtain ⟨yZ59, hZ59, hbZ59, r64, rfl, h⟩ := q62
        have hZ := hZ59
        have hx : jext Z0 Z59 := jext_trans hx yZ59
        have hb := hbZ59
        have k65 := (yZ59 _ _ kv0).1
        have k66 := (yZ59 _ _ kv2).1
        show jJ G 8 80 [(0, .ref v0), (2, .ref v2), (3, .int v3), (4, .int v4), (5, .int v5)] [.long r64] Z59 I60 L61 (jcz Z59 - jcz Z0) (jsz Z59 - jsz Z0)
        refine j_lstore E 6 [(6, .long r64), (0, .ref v0), (2, .ref v2), (3, .int v3), (4, .int v4), (5, .int v5)] dX11_breaks_80 (by decide) rfl ?_
        refine j_lload E dX11_breaks_82 0 rfl ?_
        refine j_ldc2 E (tw W_539) dX11_breaks_84 ?_
        refine j_lcmp E dX11_breaks_87 ?_
        refine j_if_eq E 117 dX11_breaks_88 (by decide) (fun c67 => ?_) (fun c67 => ?_)
        · have h := h.1 c67
          refine j_sub [1, 2, 3, 4, 5] rfl ?_
          exact m_X11_breaks_b117 E EU K31 hK31 v0 v2 v3 v4 v5 Z59 I60 L61 hZ hx hc hb k65 k66 h
        · have h := h.2 c67
          refine j_iload_n E dX11_breaks_91 3 rfl ?_
          refine j_bipush E (v := -2) dX11_breaks_92 (by decide) ?_
          refine j_icmp_eq E 107 dX11_breaks_94 (by decide) (fun c68 => ?_) (fun c68 => ?_)
          · have h := h.1 c68
            refine j_sub [1, 2, 5, 0] rfl ?_
            exact m_X11_breaks_b107 E EU K31 hK31 v0 v2 v5 r64 Z59 I60 L61 hZ hx hc hb k65 k66 h
          · have h := h.2 c68
            refine j_lload E dX11_breaks_97 0 rfl ?_
            refine j_callS E [.long r64] [] (c_X11_costIn (gL G) (gD G) (gY G) r64 Z59 I60 L61 _ hZ  h) (gwS W_529 W_67 W_40 W_66) rfl fy_X11_costIn ⟨Nat.le_of_ble_eq_true rfl, Nat.le_of_ble_eq_true rfl⟩ rfl rfl (Nat.le_of_ble_eq_true rfl) (ju_kn hb) dX11_breaks_99 (fun v69 Z70 I71 L72 q73 => ?_)
            obtain ⟨rfl, r75, rfl, h⟩ := q73
            show jJ G 8 102 [(6, .long r64), (0, .ref v0), (2, .ref v2), (3, .int v3), (4, .int v4), (5, .int v5)] [.int r75] Z59 I71 L72 (jcz Z59 - jcz Z0) (jsz Z59 - jsz Z0)
            refine j_iload E dX11_breaks_102 4 rfl ?_
            refine j_icmp_ge E 117 dX11_breaks_104 (by decide) (fun c76 => ?_) (fun c76 => ?_)
            · have h := h.1 c76
              refine j_sub [1, 2, 3, 4, 5] rfl ?_
              exact m_X11_breaks_b117 E EU K31 hK31 v0 v2 v3 v4 v5 Z59 I71 L72 hZ hx hc hb k65 k66 h
            · have h := h.2 c76
              refine j_sub [1, 2, 5, 0] rfl ?_
              exact m_X11_breaks_b107 E EU K31 hK31 v0 v2 v5 r64 Z59 I71 L72 hZ hx hc hb k65 k66 h
      · have h := h.2 c49
        refine j_goto E 117 dX11_breaks_47 (by decide) ?_
        refine j_sub [0, 1, 2, 3, 4] rfl ?_
        exact m_X11_breaks_b117 E EU K31 hK31 v0 v2 v3 v4 v5 Z I44 L45 hZ hx hc hb kv0 kv2 h
set_option maxRecDepth 100000 in
def f_X11_breaks (B : Nat × Nat) (v0 : Nat) (v1 : Int32) (Z : jZ) (I : jI) (L : jL) (Q : Int32 → jZ → jI → jL → Prop) : Prop := (f_X11_find v0 v1 Z I L (fun r83 I79 L80 => ((r83 = none → Q (-1 : Int32) Z I79 L80) ∧ (∀ b84 : Nat, r83 = some b84 → (∀ b86 : Nat, jr Z v0 2 = some b86 → ((¬ (I79 b86 9) = 0 → (∃ m31 : Nat, f_X11_breaks_L31 B  Q m31 v0 b84 (-2 : Int32) (0 : Int32) (0 : Int32) Z I79 L80)) ∧ ((I79 b86 9) = 0 → Q (-1 : Int32) Z I79 L80)))))))
set_option maxHeartbeats 4000000 in
set_option maxRecDepth 100000 in
theorem c_X11_breaks (l : Launch) (D : va_G) (cy : jC) (B : Nat × Nat) (v0 : Nat) (v1 : Int32) (Z : jZ) (I : jI) (L : jL) (Q : Int32 → jZ → jI → jL → Prop) (hZ : SH Z) (hb : jin B Z) (kv0 : jk Z v0 11) (h : f_X11_breaks B v0 v1 Z I L Q) : jCtU l yX11_breaks w_X11_breaks B 7 183 D cy [.ref v0, .int v1] Z I L (urtI B Z Q) := by
  refine jCtU_of (cc := cX11_breaks) (maxL := 8) (ret := (some .int)) (by decide +kernel) rfl (Nat.le_of_ble_eq_true rfl) ?_
  intro G eD eY eL E EU
  subst eD; subst eY; subst eL
  have E : jE G cX11_breaks RX11 w_X11_breaks 8 (some .int) (jrm B 7 183 Z) jRF := E
  have hx : jext Z Z := jext_rfl
  have hc : jle Z Z := jle_rfl
  show jJ G 8 0 [(0, .ref v0), (1, .int v1)] [] Z I L (jcz Z - jcz Z) (jsz Z - jsz Z)
  refine j_aload_n E dX11_breaks_0 0 rfl ?_
  refine j_iload_n E dX11_breaks_1 1 rfl ?_
  refine j_callV E [.int v1] [] (c_X11_find (gL G) (gD G) (gY G) v0 v1 Z I L _ hZ kv0 h) (gwV W_437 W_438 W_439 W_40 W_436) rfl ⟨rfl, fy_X11_find⟩ ⟨Nat.le_of_ble_eq_true rfl, Nat.le_of_ble_eq_true rfl⟩ (c := 11) rfl (by decide) kv0 rfl rfl (Nat.le_of_ble_eq_true rfl) (ju_kn hb) dX11_breaks_2 (fun v77 Z78 I79 L80 q81 => ?_)
  obtain ⟨rfl, r83, rfl, zr83, h⟩ := q81
  show jJ G 8 5 [(0, .ref v0), (1, .int v1)] (va_rf r83 :: []) Z I79 L80 (jcz Z - jcz Z) (jsz Z - jsz Z)
  rcases c85 : r83 with _ | b84
  · have h := h.1 c85
    refine j_rfN rfl ?_
    refine j_astore_nN E 2 [(2, .null), (0, .ref v0), (1, .int v1)] dX11_breaks_5 rfl (by decide) rfl ?_
    refine j_aload_nN E dX11_breaks_6 0 rfl ?_
    refine j_ifnullN E 20 dX11_breaks_7 (by decide) ?_
    refine j_iconst E (v := -1) dX11_breaks_20 (by decide) ?_
    exact ju_ireturn E EU hc hb ⟨hx, hZ, hb, _, rfl, h⟩ dX11_breaks_21
  · have h := h.2 b84 c85
    have kb84 := zr83 b84 c85
    refine j_rfS rfl ?_
    refine j_astore_n E 2 [(2, .ref b84), (0, .ref v0), (1, .int v1)] dX11_breaks_5 rfl (by decide) rfl ?_
    refine j_aload_n E dX11_breaks_6 0 rfl ?_
    refine j_ifnull E dX11_breaks_7 ?_
    refine j_aload_n E dX11_breaks_10 1 rfl ?_
    obtain ⟨b86, eb86, kb86⟩ := sh_o hZ kv0 (j := 2) (k := 8) rfl
    have h := h b86 eb86
    refine j_getr E 11 2 rfl rfl (by decide) (by decide) (iw iT_11) rfl rfl (tw W_454) kv0 eb86 dX11_breaks_11 ?_
    refine j_getiN E 8 9 rfl rfl (by decide) (by decide) (iw iT_8) rfl rfl (nw_8_9_X11_172) kb86 dX11_breaks_14 ?_
    refine j_if_ne E 22 dX11_breaks_17 (by decide) (fun c87 => ?_) (fun c87 => ?_)
    · have h := h.1 c87
      refine j_bipush E (v := -2) dX11_breaks_22 (by decide) ?_
      refine j_istore_n E 3 [(3, .int (-2 : Int32)), (2, .ref b84), (0, .ref v0), (1, .int v1)] dX11_breaks_24 rfl (by decide) rfl ?_
      refine j_iconst E (v := 0) dX11_breaks_25 (by decide) ?_
      refine j_istore E 4 [(4, .int (0 : Int32)), (3, .int (-2 : Int32)), (2, .ref b84), (0, .ref v0), (1, .int v1)] dX11_breaks_26 (by decide) rfl ?_
      refine j_iconst E (v := 0) dX11_breaks_28 (by decide) ?_
      refine j_istore E 5 [(5, .int (0 : Int32)), (4, .int (0 : Int32)), (3, .int (-2 : Int32)), (2, .ref b84), (0, .ref v0), (1, .int v1)] dX11_breaks_29 (by decide) rfl ?_
      obtain ⟨n88, h⟩ := h
      refine j_sub [4, 3, 2, 1, 0] rfl ?_
      exact m_X11_breaks_L31 E EU  n88 v0 b84 (-2 : Int32) (0 : Int32) (0 : Int32) Z I79 L80 hZ hx hc hb kv0 kb84 h
    · have h := h.2 c87
      refine j_iconst E (v := -1) dX11_breaks_20 (by decide) ?_
      exact ju_ireturn E EU hc hb ⟨hx, hZ, hb, _, rfl, h⟩ dX11_breaks_21
set_option maxRecDepth 100000 in
def f_X11_sumUp_b107 (B : Nat × Nat) (K7 : Nat → Int32 → Nat → Int32 → jZ → jI → jL → Prop) (Q : jZ → jI → jL → Prop) (v0 : Nat) (v1 : Int32) (v2 : Nat) (v3 : Int32) (Z : jZ) (I : jI) (L : jL) : Prop := (∀ x1 : Int32, x1 = v3 + 1 → K7 v0 v1 v2 x1 Z I L)
set_option maxHeartbeats 4000000 in
set_option maxRecDepth 100000 in
theorem m_X11_sumUp_b107 {G : jG} {B : Nat × Nat} {Z0 : jZ} {Q : jZ → jI → jL → Prop} (E : jE G cX11_sumUp RX11 w_X11_sumUp 7 none (jrm B 7 183 Z0) jRF) (EU : jEU G B Z0 (urtV B Z0 Q)) (K7 : Nat → Int32 → Nat → Int32 → jZ → jI → jL → Prop) (hK7 : ∀ (v0 : Nat) (v1 : Int32) (v2 : Nat) (v3 : Int32) (Z : jZ) (I : jI) (L : jL), SH Z → jext Z0 Z → jle Z0 Z → jin B Z → jk Z v0 11 → jk Z v2 14 → K7 v0 v1 v2 v3 Z I L → jJ G 7 7 [(0, .ref v0), (1, .int v1), (2, .ref v2), (3, .int v3)] [] Z I L (jcz Z - jcz Z0) (jsz Z - jsz Z0)) (v0 : Nat) (v1 : Int32) (v2 : Nat) (v3 : Int32) (Z : jZ) (I : jI) (L : jL) (hZ : SH Z) (hx : jext Z0 Z) (hc : jle Z0 Z) (hb : jin B Z) (kv0 : jk Z v0 11) (kv2 : jk Z v2 14) (h : f_X11_sumUp_b107 B K7 Q v0 v1 v2 v3 Z I L) : jJ G 7 107 [(0, .ref v0), (1, .int v1), (2, .ref v2), (3, .int v3)] [] Z I L (jcz Z - jcz Z0) (jsz Z - jsz Z0) := by
  obtain ⟨x1, ex1⟩ : ∃ y : Int32, y = v3 + 1 := ⟨_, rfl⟩
  have h := h x1 ex1
  refine j_iinc E x1 [(3, .int x1), (0, .ref v0), (1, .int v1), (2, .ref v2)] dX11_sumUp_107 3 rfl (by rw [ex1]; rfl) (by decide) rfl ?_
  refine j_goto E 7 dX11_sumUp_110 (by decide) ?_
  refine j_sub [1, 2, 3, 0] rfl ?_
  exact hK7 v0 v1 v2 x1 Z I L hZ hx hc hb kv0 kv2 h
set_option maxRecDepth 100000 in
def f_X11_sumUp_L7 (B : Nat × Nat)  (Q : jZ → jI → jL → Prop) : Nat → Nat → Int32 → Nat → Int32 → jZ → jI → jL → Prop
  | 0 => fun _ _ _ _ _ _ _ => False
  | n + 1 => fun v0 v1 v2 v3 Z I L => (((I v0 4) ≤ v3 → Q Z I L) ∧ (¬ ((I v0 4) ≤ v3) → (∀ b3 : Nat, jr Z v0 2 = some b3 → (((I b3 9) ≤ 0 → Q Z I L) ∧ (¬ ((I b3 9) ≤ 0) → (f_X11_find v0 v3 Z I L (fun r11 I7 L8 => ((r11 = none → f_X11_sumUp_b107 B (f_X11_sumUp_L7 B Q n) Q v0 v1 v2 v3 Z I7 L8) ∧ (∀ b12 : Nat, r11 = some b12 → (∀ b14 : Nat, jr Z b12 8 = some b14 → (f_X6_lay b14 (I7 b12 3) (I7 b12 4) v1 Z I7 L8 (fun I17 L18 => (∀ b21 : Nat, jr Z b12 8 = some b21 → (f_X6_cheapest B b21 Z I17 L18 (fun r28 Z23 I24 L25 => (((lg_cmp r28 (9223372036854775807 : Int64)) = 0 → f_X11_sumUp_b107 B (f_X11_sumUp_L7 B Q n) Q v0 v1 v2 v3 Z23 I24 L25) ∧ (¬ ((lg_cmp r28 (9223372036854775807 : Int64)) = 0) → (vp_in (0 : Int32) (jlen Z23 v2) ∧ (vp_in (0 : Int32) (jlen Z23 v2) ∧ (∀ I35 : jI, I35 = jpI I24 v2 (0 : Int32).toNatClampNeg ((I24 v2 (0 : Int32).toNatClampNeg) + (1 : Int32)) → (vp_in (1 : Int32) (jlen Z23 v2) ∧ (f_X11_costIn r28 Z23 I35 L25 (fun r43 I39 L40 => (vp_in (1 : Int32) (jlen Z23 v2) ∧ (∀ I45 : jI, I45 = jpI I39 v2 (1 : Int32).toNatClampNeg ((I35 v2 (1 : Int32).toNatClampNeg) + r43) → (vp_in (2 : Int32) (jlen Z23 v2) ∧ (f_X11_effortIn r28 Z23 I45 L40 (fun r53 I49 L50 => (vp_in (2 : Int32) (jlen Z23 v2) ∧ (∀ I55 : jI, I55 = jpI I49 v2 (2 : Int32).toNatClampNeg ((I45 v2 (2 : Int32).toNatClampNeg) + r53) → f_X11_sumUp_b107 B (f_X11_sumUp_L7 B Q n) Q v0 v1 v2 v3 Z23 I55 L50))))))))))))))))))))))))))))))
set_option maxHeartbeats 4000000 in
set_option maxRecDepth 100000 in
theorem m_X11_sumUp_L7 {G : jG} {Z0 : jZ} {B : Nat × Nat} {Q : jZ → jI → jL → Prop} (E : jE G cX11_sumUp RX11 w_X11_sumUp 7 none (jrm B 7 183 Z0) jRF) (EU : jEU G B Z0 (urtV B Z0 Q))  : ∀ (n : Nat) (v0 : Nat) (v1 : Int32) (v2 : Nat) (v3 : Int32) (Z : jZ) (I : jI) (L : jL), SH Z → jext Z0 Z → jle Z0 Z → jin B Z → jk Z v0 11 → jk Z v2 14 → f_X11_sumUp_L7 B  Q n v0 v1 v2 v3 Z I L → jJ G 7 7 [(0, .ref v0), (1, .int v1), (2, .ref v2), (3, .int v3)] [] Z I L (jcz Z - jcz Z0) (jsz Z - jsz Z0) := by
  intro n
  induction n with
  | zero => intro v0 v1 v2 v3 Z I L _ _ _ _ _ _ h; exact h.elim
  | succ n ih =>
    intro v0 v1 v2 v3 Z I L hZ hx hc hb kv0 kv2 h
    have h : (((I v0 4) ≤ v3 → Q Z I L) ∧ (¬ ((I v0 4) ≤ v3) → (∀ b3 : Nat, jr Z v0 2 = some b3 → (((I b3 9) ≤ 0 → Q Z I L) ∧ (¬ ((I b3 9) ≤ 0) → (f_X11_find v0 v3 Z I L (fun r11 I7 L8 => ((r11 = none → f_X11_sumUp_b107 B (f_X11_sumUp_L7 B Q n) Q v0 v1 v2 v3 Z I7 L8) ∧ (∀ b12 : Nat, r11 = some b12 → (∀ b14 : Nat, jr Z b12 8 = some b14 → (f_X6_lay b14 (I7 b12 3) (I7 b12 4) v1 Z I7 L8 (fun I17 L18 => (∀ b21 : Nat, jr Z b12 8 = some b21 → (f_X6_cheapest B b21 Z I17 L18 (fun r28 Z23 I24 L25 => (((lg_cmp r28 (9223372036854775807 : Int64)) = 0 → f_X11_sumUp_b107 B (f_X11_sumUp_L7 B Q n) Q v0 v1 v2 v3 Z23 I24 L25) ∧ (¬ ((lg_cmp r28 (9223372036854775807 : Int64)) = 0) → (vp_in (0 : Int32) (jlen Z23 v2) ∧ (vp_in (0 : Int32) (jlen Z23 v2) ∧ (∀ I35 : jI, I35 = jpI I24 v2 (0 : Int32).toNatClampNeg ((I24 v2 (0 : Int32).toNatClampNeg) + (1 : Int32)) → (vp_in (1 : Int32) (jlen Z23 v2) ∧ (f_X11_costIn r28 Z23 I35 L25 (fun r43 I39 L40 => (vp_in (1 : Int32) (jlen Z23 v2) ∧ (∀ I45 : jI, I45 = jpI I39 v2 (1 : Int32).toNatClampNeg ((I35 v2 (1 : Int32).toNatClampNeg) + r43) → (vp_in (2 : Int32) (jlen Z23 v2) ∧ (f_X11_effortIn r28 Z23 I45 L40 (fun r53 I49 L50 => (vp_in (2 : Int32) (jlen Z23 v2) ∧ (∀ I55 : jI, I55 = jpI I49 v2 (2 : Int32).toNatClampNeg ((I45 v2 (2 : Int32).toNatClampNeg) + r53) → f_X11_sumUp_b107 B (f_X11_sumUp_L7 B Q n) Q v0 v1 v2 v3 Z23 I55 L50)))))))))))))))))))))))))))))) := h
    obtain ⟨K7, eK7⟩ : ∃ K : Nat → Int32 → Nat → Int32 → jZ → jI → jL → Prop, K = f_X11_sumUp_L7 B  Q n := ⟨_, rfl⟩
    have hK7 := ih
    clear eK7 K7
    generalize f_X11_sumUp_L7 B  Q n = K7 at hK7 h
    refine j_iload_n E dX11_sumUp_7 3 rfl ?_
    refine j_aload_n E dX11_sumUp_8 0 rfl ?_
    refine j_geti E 11 4 rfl rfl (by decide) (by decide) (iw iT_11) rfl rfl (tw W_431) kv0 dX11_sumUp_9 ?_
    refine j_icmp_ge E 113 dX11_sumUp_12 (by decide) (fun c2 => ?_) (fun c2 => ?_)
    · have h := h.1 c2
      exact ju_return E EU hc hb ⟨hx, hZ, hb, rfl, h⟩ dX11_sumUp_113
    · have h := h.2 c2
      refine j_aload_n E dX11_sumUp_15 0 rfl ?_
      obtain ⟨b3, eb3, kb3⟩ := sh_o hZ kv0 (j := 2) (k := 8) rfl
      have h := h b3 eb3
      refine j_getr E 11 2 rfl rfl (by decide) (by decide) (iw iT_11) rfl rfl (tw W_454) kv0 eb3 dX11_sumUp_16 ?_
      refine j_getiN E 8 9 rfl rfl (by decide) (by decide) (iw iT_8) rfl rfl (nw_8_9_X11_172) kb3 dX11_sumUp_19 ?_
      refine j_if_le E 113 dX11_sumUp_22 (by decide) (fun c4 => ?_) (fun c4 => ?_)
      · have h := h.1 c4
        exact ju_return E EU hc hb ⟨hx, hZ, hb, rfl, h⟩ dX11_sumUp_113
      · have h := h.2 c4
        refine j_aload_n E dX11_sumUp_25 0 rfl ?_
        refine j_iload_n E dX11_sumUp_26 3 rfl ?_
        refine j_callV E [.int v3] [] (c_X11_find (gL G) (gD G) (gY G) v0 v3 Z I L _ hZ kv0 h) (gwV W_437 W_438 W_439 W_40 W_436) rfl ⟨rfl, fy_X11_find⟩ ⟨Nat.le_of_ble_eq_true rfl, Nat.le_of_ble_eq_true rfl⟩ (c := 11) rfl (by decide) kv0 rfl rfl (Nat.le_of_ble_eq_true rfl) (ju_kn hb) dX11_sumUp_27 (fun v5 Z6 I7 L8 q9 => ?_)
        obtain ⟨rfl, r11, rfl, zr11, h⟩ := q9
        show jJ G 7 30 [(0, .ref v0), (1, .int v1), (2, .ref v2), (3, .int v3)] (va_rf r11 :: []) Z I7 L8 (jcz Z - jcz Z0) (jsz Z - jsz Z0)
        rcases c13 : r11 with _ | b12
        · have h := h.1 c13
          refine j_rfN rfl ?_
          refine j_astoreN E 4 [(4, .null), (0, .ref v0), (1, .int v1), (2, .ref v2), (3, .int v3)] dX11_sumUp_30 (by decide) rfl ?_
          refine j_aloadN E dX11_sumUp_32 0 rfl ?_
          refine j_ifnonnullN E dX11_sumUp_34 ?_
          refine j_goto E 107 dX11_sumUp_37 (by decide) ?_
          refine j_sub [1, 2, 3, 4] rfl ?_
          exact m_X11_sumUp_b107 E EU K7 hK7 v0 v1 v2 v3 Z I7 L8 hZ hx hc hb kv0 kv2 h
        · have h := h.2 b12 c13
          have kb12 := zr11 b12 c13
          refine j_rfS rfl ?_
          refine j_astore E 4 [(4, .ref b12), (0, .ref v0), (1, .int v1), (2, .ref v2), (3, .int v3)] dX11_sumUp_30 (by decide) rfl ?_
          refine j_aload E dX11_sumUp_32 0 rfl ?_
          refine j_ifnonnull E 40 dX11_sumUp_34 (by decide) ?_
          refine j_aload E dX11_sumUp_40 0 rfl ?_
          obtain ⟨b14, eb14, kb14⟩ := sh_o hZ kb12 (j := 8) (k := 6) rfl
          have h := h b14 eb14
          refine j_getrN E 5 8 rfl rfl (by decide) (by decide) (iw iT_5) rfl rfl (nw_5_8_X11_263) kb12 eb14 dX11_sumUp_42 ?_
          refine j_aload E dX11_sumUp_45 0 rfl ?_
          refine j_getiN E 5 3 rfl rfl (by decide) (by decide) (iw iT_5) rfl rfl (nw_5_3_X11_213) kb12 dX11_sumUp_47 ?_
          refine j_aload E dX11_sumUp_50 0 rfl ?_
          refine j_getiN E 5 4 rfl rfl (by decide) (by decide) (iw iT_5) rfl rfl (nw_5_4_X11_196) kb12 dX11_sumUp_52 ?_
          refine j_iload_n E dX11_sumUp_55 2 rfl ?_
          refine j_callV E [.int (I7 b12 3), .int (I7 b12 4), .int v1] [] (c_X6_lay (gL G) (gD G) (gY G) b14 (I7 b12 3) (I7 b12 4) v1 Z I7 L8 _ hZ kb14 h) (gwV W_532 W_533 W_534 W_33 W_531) rfl ⟨rfl, fy_X6_lay⟩ ⟨Nat.le_of_ble_eq_true rfl, Nat.le_of_ble_eq_true rfl⟩ (c := 6) rfl (by decide) kb14 rfl rfl (Nat.le_of_ble_eq_true rfl) (ju_kn hb) dX11_sumUp_56 (fun v15 Z16 I17 L18 q19 => ?_)
          obtain ⟨rfl, rfl, h⟩ := q19
          show jJ G 7 59 [(4, .ref b12), (0, .ref v0), (1, .int v1), (2, .ref v2), (3, .int v3)] [] Z I17 L18 (jcz Z - jcz Z0) (jsz Z - jsz Z0)
          refine j_aload E dX11_sumUp_59 0 rfl ?_
          obtain ⟨b21, eb21, kb21⟩ := sh_o hZ kb12 (j := 8) (k := 6) rfl
          have h := h b21 eb21
          refine j_getrN E 5 8 rfl rfl (by decide) (by decide) (iw iT_5) rfl rfl (nw_5_8_X11_263) kb12 eb21 dX11_sumUp_61 ?_
          refine ju_callV E [] [] (c_X6_cheapest (gL G) (gD G) (gY G) B b21 Z I17 L18 _ hZ hb kb21 h) (gwV W_536 W_537 W_538 W_33 W_535) rfl ⟨rfl, fy_X6_cheapest⟩ ⟨Nat.le_of_ble_eq_true rfl, Nat.le_of_ble_eq_true rfl⟩ (c := 6) rfl (by decide) kb21 rfl rfl (Nat.le_of_ble_eq_true rfl) (ju_f hc hb) dX11_sumUp_64 (fun v22 Z23 I24 L25 q26 j27 => ?_)
          refine ju_next hc j27 ?_
          have hc := jle_trans hc j27
          obtain ⟨yZ23, hZ23, hbZ23, r28, rfl, h⟩ := q26
          have hZ := hZ23
          have hx : jext Z0 Z23 := jext_trans hx yZ23
          have hb := hbZ23
          have k29 := (yZ23 _ _ kv0).1
          have k30 := (yZ23 _ _ kv2).1
          have k31 := (yZ23 _ _ kb12).1
          show jJ G 7 67 [(4, .ref b12), (0, .ref v0), (1, .int v1), (2, .ref v2), (3, .int v3)] [.long r28] Z23 I24 L25 (jcz Z23 - jcz Z0) (jsz Z23 - jsz Z0)
          refine j_lstore E 5 [(5, .long r28), (4, .ref b12), (0, .ref v0), (1, .int v1), (2, .ref v2), (3, .int v3)] dX11_sumUp_67 (by decide) rfl ?_
          refine j_lload E dX11_sumUp_69 0 rfl ?_
          refine j_ldc2 E (tw W_539) dX11_sumUp_71 ?_
          refine j_lcmp E dX11_sumUp_74 ?_
          refine j_if_eq E 107 dX11_sumUp_75 (by decide) (fun c32 => ?_) (fun c32 => ?_)
          · have h := h.1 c32
            refine j_sub [2, 3, 4, 5] rfl ?_
            exact m_X11_sumUp_b107 E EU K7 hK7 v0 v1 v2 v3 Z23 I24 L25 hZ hx hc hb k29 k30 h
          · have h := h.2 c32
            refine j_aload_n E dX11_sumUp_78 4 rfl ?_
            refine j_iconst E (v := 0) dX11_sumUp_79 (by decide) ?_
            refine j_dup2_11 E dX11_sumUp_80 rfl rfl ?_
            obtain ⟨o33, h⟩ := h
            refine j_iald E k30 o33 dX11_sumUp_81 ?_
            refine j_iconst E (v := 1) dX11_sumUp_82 (by decide) ?_
            refine j_iadd E dX11_sumUp_83 ?_
            obtain ⟨o34, h⟩ := h
            refine j_iast E k30 o34 dX11_sumUp_84 ?_
            refine j_nmI (fun I35 eI35 => ?_)
            have h := h I35 eI35
            refine j_aload_n E dX11_sumUp_85 4 rfl ?_
            refine j_iconst E (v := 1) dX11_sumUp_86 (by decide) ?_
            refine j_dup2_11 E dX11_sumUp_87 rfl rfl ?_
            obtain ⟨o36, h⟩ := h
            refine j_iald E k30 o36 dX11_sumUp_88 ?_
            refine j_lload E dX11_sumUp_89 0 rfl ?_
            refine j_callS E [.long r28] [.int (I35 v2 (1 : Int32).toNatClampNeg), .int (1 : Int32), .ref v2] (c_X11_costIn (gL G) (gD G) (gY G) r28 Z23 I35 L25 _ hZ  h) (gwS W_529 W_67 W_40 W_66) rfl fy_X11_costIn ⟨Nat.le_of_ble_eq_true rfl, Nat.le_of_ble_eq_true rfl⟩ rfl rfl (Nat.le_of_ble_eq_true rfl) (ju_kn hb) dX11_sumUp_91 (fun v37 Z38 I39 L40 q41 => ?_)
            obtain ⟨rfl, r43, rfl, h⟩ := q41
            show jJ G 7 94 [(5, .long r28), (4, .ref b12), (0, .ref v0), (1, .int v1), (2, .ref v2), (3, .int v3)] [.int r43, .int (I35 v2 (1 : Int32).toNatClampNeg), .int (1 : Int32), .ref v2] Z23 I39 L40 (jcz Z23 - jcz Z0) (jsz Z23 - jsz Z0)
            refine j_iadd E dX11_sumUp_94 ?_
            obtain ⟨o44, h⟩ := h
            refine j_iast E k30 o44 dX11_sumUp_95 ?_
            refine j_nmI (fun I45 eI45 => ?_)
            have h := h I45 eI45
            refine j_aload_n E dX11_sumUp_96 4 rfl ?_
            refine j_iconst E (v := 2) dX11_sumUp_97 (by decide) ?_
            refine j_dup2_11 E dX11_sumUp_98 rfl rfl ?_
            obtain ⟨o46, h⟩ := h
            refine j_iald E k30 o46 dX11_sumUp_99 ?_
            refine j_lload E dX11_sumUp_100 0 rfl ?_
            refine j_callS E [.long r28] [.int (I45 v2 (2 : Int32).toNatClampNeg), .int (2 : Int32), .ref v2] (c_X11_effortIn (gL G) (gD G) (gY G) r28 Z23 I45 L40 _ hZ  h) (gwS W_540 W_69 W_40 W_68) rfl fy_X11_effortIn ⟨Nat.le_of_ble_eq_true rfl, Nat.le_of_ble_eq_true rfl⟩ rfl rfl (Nat.le_of_ble_eq_true rfl) (ju_kn hb) dX11_sumUp_102 (fun v47 Z48 I49 L50 q51 => ?_)
            obtain ⟨rfl, r53, rfl, h⟩ := q51
            show jJ G 7 105 [(5, .long r28), (4, .ref b12), (0, .ref v0), (1, .int v1), (2, .ref v2), (3, .int v3)] [.int r53, .int (I45 v2 (2 : Int32).toNatClampNeg), .int (2 : Int32), .ref v2] Z23 I49 L50 (jcz Z23 - jcz Z0) (jsz Z23 - jsz Z0)
            refine j_iadd E dX11_sumUp_105 ?_
            obtain ⟨o54, h⟩ := h
            refine j_iast E k30 o54 dX11_sumUp_106 ?_
            refine j_nmI (fun I55 eI55 => ?_)
            have h := h I55 eI55
            refine j_sub [2, 3, 4, 5] rfl ?_
            exact m_X11_sumUp_b107 E EU K7 hK7 v0 v1 v2 v3 Z23 I55 L50 hZ hx hc hb k29 k30 h
set_option maxRecDepth 100000 in
def f_X11_sumUp (B : Nat × Nat) (v0 : Nat) (v1 : Int32) (v2 : Nat) (Z : jZ) (I : jI) (L : jL) (Q : jZ → jI → jL → Prop) : Prop := (f_J7_fill_53178 v2 (0 : Int32) Z I L (fun I58 L59 => (∃ m7 : Nat, f_X11_sumUp_L7 B  Q m7 v0 v1 v2 (0 : Int32) Z I58 L59)))
set_option maxHeartbeats 4000000 in
set_option maxRecDepth 100000 in
theorem c_X11_sumUp (l : Launch) (D : va_G) (cy : jC) (B : Nat × Nat) (v0 : Nat) (v1 : Int32) (v2 : Nat) (Z : jZ) (I : jI) (L : jL) (Q : jZ → jI → jL → Prop) (hZ : SH Z) (hb : jin B Z) (kv0 : jk Z v0 11) (kv2 : jk Z v2 14) (h : f_X11_sumUp B v0 v1 v2 Z I L Q) : jCtU l yX11_sumUp w_X11_sumUp B 7 183 D cy [.ref v0, .int v1, .ref v2] Z I L (urtV B Z Q) := by
  refine jCtU_of (cc := cX11_sumUp) (maxL := 7) (ret := none) (by decide +kernel) rfl (Nat.le_of_ble_eq_true rfl) ?_
  intro G eD eY eL E EU
  subst eD; subst eY; subst eL
  have E : jE G cX11_sumUp RX11 w_X11_sumUp 7 none (jrm B 7 183 Z) jRF := E
  have hx : jext Z Z := jext_rfl
  have hc : jle Z Z := jle_rfl
  show jJ G 7 0 [(0, .ref v0), (1, .int v1), (2, .ref v2)] [] Z I L (jcz Z - jcz Z) (jsz Z - jsz Z)
  refine j_aload_n E dX11_sumUp_0 2 rfl ?_
  refine j_iconst E (v := 0) dX11_sumUp_1 (by decide) ?_
  refine j_callS E [.ref v2, .int (0 : Int32)] [] (c_J7_fill_53178 (gL G) (gD G) (gY G) v2 (0 : Int32) Z I L _ hZ kv2 h) (gwS W_435 W_22 W_17 W_20) rfl fy_J7_fill_53178 ⟨Nat.le_of_ble_eq_true rfl, Nat.le_of_ble_eq_true rfl⟩ rfl rfl (Nat.le_of_ble_eq_true rfl) (ju_kn hb) dX11_sumUp_2 (fun v56 Z57 I58 L59 q60 => ?_)
  obtain ⟨rfl, rfl, h⟩ := q60
  show jJ G 7 5 [(0, .ref v0), (1, .int v1), (2, .ref v2)] [] Z I58 L59 (jcz Z - jcz Z) (jsz Z - jsz Z)
  refine j_iconst E (v := 0) dX11_sumUp_5 (by decide) ?_
  refine j_istore_n E 3 [(3, .int (0 : Int32)), (0, .ref v0), (1, .int v1), (2, .ref v2)] dX11_sumUp_6 rfl (by decide) rfl ?_
  obtain ⟨n62, h⟩ := h
  refine j_sub [1, 2, 3, 0] rfl ?_
  exact m_X11_sumUp_L7 E EU  n62 v0 v1 v2 (0 : Int32) Z I58 L59 hZ hx hc hb kv0 kv2 h
set_option maxRecDepth 100000 in
def f_X11_all (B : Nat × Nat) (v0 : Nat) (Z : jZ) (I : jI) (L : jL) (Q : Int32 → jZ → jI → jL → Prop) : Prop := (∀ b1 : Nat, jr Z v0 11 = some b1 → (f_X11_sumUp B v0 (-1 : Int32) b1 Z I L (fun Z3 I4 L5 => (∀ b9 : Nat, jr Z3 v0 11 = some b9 → (∀ b10 : Nat, jr Z3 v0 11 = some b10 → (f_X11_tellTwo v0 ((I4 b9 (0 : Int32).toNatClampNeg).toInt64) ((I4 b10 (2 : Int32).toNatClampNeg).toInt64) Z3 I4 L5 (fun I13 L14 => (∀ b17 : Nat, jr Z3 v0 11 = some b17 → Q (I13 b17 (1 : Int32).toNatClampNeg) Z3 I13 L14))))))))
set_option maxHeartbeats 4000000 in
set_option maxRecDepth 100000 in
theorem c_X11_all (l : Launch) (D : va_G) (cy : jC) (B : Nat × Nat) (v0 : Nat) (Z : jZ) (I : jI) (L : jL) (Q : Int32 → jZ → jI → jL → Prop) (hZ : SH Z) (hb : jin B Z) (kv0 : jk Z v0 11) (h : f_X11_all B v0 Z I L Q) : jCtU l yX11_all w_X11_all B 8 209 D cy [.ref v0] Z I L (urtI B Z Q) := by
  refine jCtU_of (cc := cX11_all) (maxL := 1) (ret := (some .int)) (by decide +kernel) rfl (Nat.le_of_ble_eq_true rfl) ?_
  intro G eD eY eL E EU
  subst eD; subst eY; subst eL
  have E : jE G cX11_all RX11 w_X11_all 1 (some .int) (jrm B 8 209 Z) jRF := E
  have hx : jext Z Z := jext_rfl
  have hc : jle Z Z := jle_rfl
  show jJ G 1 0 [(0, .ref v0)] [] Z I L (jcz Z - jcz Z) (jsz Z - jsz Z)
  refine j_aload_n E dX11_all_0 0 rfl ?_
  refine j_iconst E (v := -1) dX11_all_1 (by decide) ?_
  refine j_aload_n E dX11_all_2 0 rfl ?_
  obtain ⟨b1, eb1, kb1, lb1⟩ := sh_f hZ kv0 (j := 11) (k := 14) (m := 3) rfl
  have h := h b1 eb1
  refine j_getr E 11 11 rfl rfl (by decide) (by decide) (iw iT_11) rfl rfl (tw W_562) kv0 eb1 dX11_all_3 ?_
  refine ju_callV E [.int (-1 : Int32), .ref b1] [] (c_X11_sumUp (gL G) (gD G) (gY G) B v0 (-1 : Int32) b1 Z I L _ hZ hb kv0 kb1 h) (gwV W_564 W_565 W_566 W_40 W_563) rfl ⟨rfl, fy_X11_sumUp⟩ ⟨Nat.le_of_ble_eq_true rfl, Nat.le_of_ble_eq_true rfl⟩ (c := 11) rfl (by decide) kv0 rfl rfl (Nat.le_of_ble_eq_true rfl) (ju_f hc hb) dX11_all_6 (fun v2 Z3 I4 L5 q6 j7 => ?_)
  refine ju_next hc j7 ?_
  have hc := jle_trans hc j7
  obtain ⟨yZ3, hZ3, hbZ3, rfl, h⟩ := q6
  have hZ := hZ3
  have hx : jext Z Z3 := jext_trans hx yZ3
  have hb := hbZ3
  have k8 := (yZ3 _ _ kv0).1
  show jJ G 1 9 [(0, .ref v0)] [] Z3 I4 L5 (jcz Z3 - jcz Z) (jsz Z3 - jsz Z)
  refine j_aload_n E dX11_all_9 0 rfl ?_
  refine j_aload_n E dX11_all_10 0 rfl ?_
  obtain ⟨b9, eb9, kb9, lb9⟩ := sh_f hZ k8 (j := 11) (k := 14) (m := 3) rfl
  have h := h b9 eb9
  refine j_getr E 11 11 rfl rfl (by decide) (by decide) (iw iT_11) rfl rfl (tw W_562) k8 eb9 dX11_all_11 ?_
  refine j_iconst E (v := 0) dX11_all_14 (by decide) ?_
  refine j_iald E kb9 (by rw [lb9]; exact vp_in_lit (by decide)) dX11_all_15 ?_
  refine j_i2l E dX11_all_16 ?_
  refine j_aload_n E dX11_all_17 0 rfl ?_
  obtain ⟨b10, eb10, kb10, lb10⟩ := sh_f hZ k8 (j := 11) (k := 14) (m := 3) rfl
  have h := h b10 eb10
  refine j_getr E 11 11 rfl rfl (by decide) (by decide) (iw iT_11) rfl rfl (tw W_562) k8 eb10 dX11_all_18 ?_
  refine j_iconst E (v := 2) dX11_all_21 (by decide) ?_
  refine j_iald E kb10 (by rw [lb10]; exact vp_in_lit (by decide)) dX11_all_22 ?_
  refine j_i2l E dX11_all_23 ?_
  refine j_callV E [.long ((I4 b9 (0 : Int32).toNatClampNeg).toInt64), .long ((I4 b10 (2 : Int32).toNatClampNeg).toInt64)] [] (c_X11_tellTwo (gL G) (gD G) (gY G) v0 ((I4 b9 (0 : Int32).toNatClampNeg).toInt64) ((I4 b10 (2 : Int32).toNatClampNeg).toInt64) Z3 I4 L5 _ hZ k8 h) (gwV W_501 W_502 W_503 W_40 W_500) rfl ⟨rfl, fy_X11_tellTwo⟩ ⟨Nat.le_of_ble_eq_true rfl, Nat.le_of_ble_eq_true rfl⟩ (c := 11) rfl (by decide) k8 rfl rfl (Nat.le_of_ble_eq_true rfl) (ju_kn hb) dX11_all_24 (fun v11 Z12 I13 L14 q15 => ?_)
  obtain ⟨rfl, rfl, h⟩ := q15
  show jJ G 1 27 [(0, .ref v0)] [] Z3 I13 L14 (jcz Z3 - jcz Z) (jsz Z3 - jsz Z)
  refine j_aload_n E dX11_all_27 0 rfl ?_
  obtain ⟨b17, eb17, kb17, lb17⟩ := sh_f hZ k8 (j := 11) (k := 14) (m := 3) rfl
  have h := h b17 eb17
  refine j_getr E 11 11 rfl rfl (by decide) (by decide) (iw iT_11) rfl rfl (tw W_562) k8 eb17 dX11_all_28 ?_
  refine j_iconst E (v := 1) dX11_all_31 (by decide) ?_
  refine j_iald E kb17 (by rw [lb17]; exact vp_in_lit (by decide)) dX11_all_32 ?_
  exact ju_ireturn E EU hc hb ⟨hx, hZ, hb, _, rfl, h⟩ dX11_all_33
set_option maxRecDepth 100000 in
def f_X11_tellDifferences_b56 (K8 : Nat → Int32 → Int32 → jI → jL → Prop) (Z : jZ) (Q : Int32 → jI → jL → Prop) (v0 : Nat) (v2 : Int32) (s0 : Int32) (s1 : Int32) (I : jI) (L : jL) : Prop := (∀ x1 : Int32, x1 = (s0 ||| s1) → (∀ x2 : Int32, x2 = v2 + 1 → K8 v0 x1 x2 I L))
set_option maxHeartbeats 4000000 in
set_option maxRecDepth 100000 in
theorem m_X11_tellDifferences_b56 {G : jG} {Z : jZ} {Q : Int32 → jI → jL → Prop} (E : jE G cX11_tellDifferences RX11 w_X11_tellDifferences 3 (some .int) { frames := 1, cells := 0, slots := 0, locals := 22 } (rtI Z Q)) (hZ : SH Z) (K8 : Nat → Int32 → Int32 → jI → jL → Prop) (hK8 : ∀ (v0 : Nat) (v1 : Int32) (v2 : Int32) (I : jI) (L : jL), jk Z v0 11 → K8 v0 v1 v2 I L → jJ G 3 8 [(0, .ref v0), (1, .int v1), (2, .int v2)] [] Z I L 0 0) (v0 : Nat) (v2 : Int32) (s0 : Int32) (s1 : Int32) (I : jI) (L : jL) (kv0 : jk Z v0 11) (h : f_X11_tellDifferences_b56 K8 Z Q v0 v2 s0 s1 I L) : jJ G 3 56 [(0, .ref v0), (2, .int v2)] [.int s1, .int s0] Z I L 0 0 := by
  refine j_ior E dX11_tellDifferences_56 ?_
  refine j_topi (fun x1 ex1 => ?_)
  have h := h x1 ex1
  refine j_istore_n E 1 [(1, .int x1), (0, .ref v0), (2, .int v2)] dX11_tellDifferences_57 rfl (by decide) rfl ?_
  obtain ⟨x2, ex2⟩ : ∃ y : Int32, y = v2 + 1 := ⟨_, rfl⟩
  have h := h x2 ex2
  refine j_iinc E x2 [(2, .int x2), (1, .int x1), (0, .ref v0)] dX11_tellDifferences_58 2 rfl (by rw [ex2]; rfl) (by decide) rfl ?_
  refine j_goto E 8 dX11_tellDifferences_61 (by decide) ?_
  refine j_sub [2, 1, 0] rfl ?_
  exact hK8 v0 x1 x2 I L kv0 h
set_option maxRecDepth 100000 in
def f_X11_tellDifferences_L8  (Z : jZ) (Q : Int32 → jI → jL → Prop) : Nat → Nat → Int32 → Int32 → jI → jL → Prop
  | 0 => fun _ _ _ _ _ => False
  | n + 1 => fun v0 v1 v2 I L => (∀ b3 : Nat, jr Z v0 11 = some b3 → (((3 : Int32) ≤ v2 → ((v1 = 0 → Q (0 : Int32) I L) ∧ (¬ (v1 = 0) → Q (1 : Int32) I L))) ∧ (¬ ((3 : Int32) ≤ v2) → (∀ b6 : Nat, jr Z v0 12 = some b6 → (vp_in v2 3 ∧ (∀ b8 : Nat, jr Z v0 11 = some b8 → (vp_in v2 3 ∧ (f_X11_tellMore v0 (((I b6 v2.toNatClampNeg) - (I b8 v2.toNatClampNeg)).toInt64) Z I L (fun I12 L13 => (∀ b16 : Nat, jr Z v0 12 = some b16 → (vp_in v2 3 ∧ (∀ b18 : Nat, jr Z v0 11 = some b18 → (vp_in v2 3 ∧ (((I12 b16 v2.toNatClampNeg) = (I12 b18 v2.toNatClampNeg) → f_X11_tellDifferences_b56 (f_X11_tellDifferences_L8 Z Q n) Z Q v0 v2 v1 (0 : Int32) I12 L13) ∧ (¬ ((I12 b16 v2.toNatClampNeg) = (I12 b18 v2.toNatClampNeg)) → f_X11_tellDifferences_b56 (f_X11_tellDifferences_L8 Z Q n) Z Q v0 v2 v1 (1 : Int32) I12 L13)))))))))))))))
set_option maxHeartbeats 4000000 in
set_option maxRecDepth 100000 in
theorem m_X11_tellDifferences_L8 {G : jG} {Z : jZ} {Q : Int32 → jI → jL → Prop} (E : jE G cX11_tellDifferences RX11 w_X11_tellDifferences 3 (some .int) { frames := 1, cells := 0, slots := 0, locals := 22 } (rtI Z Q)) (hZ : SH Z)  : ∀ (n : Nat) (v0 : Nat) (v1 : Int32) (v2 : Int32) (I : jI) (L : jL), jk Z v0 11 → f_X11_tellDifferences_L8  Z Q n v0 v1 v2 I L → jJ G 3 8 [(0, .ref v0), (1, .int v1), (2, .int v2)] [] Z I L 0 0 := by
  intro n
  induction n with
  | zero => intro v0 v1 v2 I L _ h; exact h.elim
  | succ n ih =>
    intro v0 v1 v2 I L kv0 h
    have h : (∀ b3 : Nat, jr Z v0 11 = some b3 → (((3 : Int32) ≤ v2 → ((v1 = 0 → Q (0 : Int32) I L) ∧ (¬ (v1 = 0) → Q (1 : Int32) I L))) ∧ (¬ ((3 : Int32) ≤ v2) → (∀ b6 : Nat, jr Z v0 12 = some b6 → (vp_in v2 3 ∧ (∀ b8 : Nat, jr Z v0 11 = some b8 → (vp_in v2 3 ∧ (f_X11_tellMore v0 (((I b6 v2.toNatClampNeg) - (I b8 v2.toNatClampNeg)).toInt64) Z I L (fun I12 L13 => (∀ b16 : Nat, jr Z v0 12 = some b16 → (vp_in v2 3 ∧ (∀ b18 : Nat, jr Z v0 11 = some b18 → (vp_in v2 3 ∧ (((I12 b16 v2.toNatClampNeg) = (I12 b18 v2.toNatClampNeg) → f_X11_tellDifferences_b56 (f_X11_tellDifferences_L8 Z Q n) Z Q v0 v2 v1 (0 : Int32) I12 L13) ∧ (¬ ((I12 b16 v2.toNatClampNeg) = (I12 b18 v2.toNatClampNeg)) → f_X11_tellDifferences_b56 (f_X11_tellDifferences_L8 Z Q n) Z Q v0 v2 v1 (1 : Int32) I12 L13))))))))))))))) := h
    obtain ⟨K8, eK8⟩ : ∃ K : Nat → Int32 → Int32 → jI → jL → Prop, K = f_X11_tellDifferences_L8  Z Q n := ⟨_, rfl⟩
    have hK8 := ih
    clear eK8 K8
    generalize f_X11_tellDifferences_L8  Z Q n = K8 at hK8 h
    refine j_iload_n E dX11_tellDifferences_8 2 rfl ?_
    refine j_aload_n E dX11_tellDifferences_9 0 rfl ?_
    obtain ⟨b3, eb3, kb3, lb3⟩ := sh_f hZ kv0 (j := 11) (k := 14) (m := 3) rfl
    have h := h b3 eb3
    refine j_getr E 11 11 rfl rfl (by decide) (by decide) (iw iT_11) rfl rfl (tw W_562) kv0 eb3 dX11_tellDifferences_10 ?_
    refine j_alen14 E (v := 3) kb3 (by rw [lb3]; rfl) dX11_tellDifferences_13 ?_
    refine j_icmp_ge E 64 dX11_tellDifferences_14 (by decide) (fun c4 => ?_) (fun c4 => ?_)
    · have h := h.1 c4
      refine j_iload_n E dX11_tellDifferences_64 1 rfl ?_
      refine j_if_eq E 72 dX11_tellDifferences_65 (by decide) (fun c5 => ?_) (fun c5 => ?_)
      · have h := h.1 c5
        refine j_iconst E (v := 0) dX11_tellDifferences_72 (by decide) ?_
        exact j_ireturn E ⟨rfl, _, rfl, h⟩ (Nat.zero_le _) (Nat.zero_le _) dX11_tellDifferences_73
      · have h := h.2 c5
        refine j_iconst E (v := 1) dX11_tellDifferences_68 (by decide) ?_
        refine j_goto E 73 dX11_tellDifferences_69 (by decide) ?_
        exact j_ireturn E ⟨rfl, _, rfl, h⟩ (Nat.zero_le _) (Nat.zero_le _) dX11_tellDifferences_73
    · have h := h.2 c4
      refine j_aload_n E dX11_tellDifferences_17 0 rfl ?_
      refine j_aload_n E dX11_tellDifferences_18 0 rfl ?_
      obtain ⟨b6, eb6, kb6, lb6⟩ := sh_f hZ kv0 (j := 12) (k := 14) (m := 3) rfl
      have h := h b6 eb6
      refine j_getr E 11 12 rfl rfl (by decide) (by decide) (iw iT_11) rfl rfl (tw W_567) kv0 eb6 dX11_tellDifferences_19 ?_
      refine j_iload_n E dX11_tellDifferences_22 2 rfl ?_
      obtain ⟨o7, h⟩ := h
      refine j_iald E kb6 (by rw [lb6]; exact o7) dX11_tellDifferences_23 ?_
      refine j_aload_n E dX11_tellDifferences_24 0 rfl ?_
      obtain ⟨b8, eb8, kb8, lb8⟩ := sh_f hZ kv0 (j := 11) (k := 14) (m := 3) rfl
      have h := h b8 eb8
      refine j_getr E 11 11 rfl rfl (by decide) (by decide) (iw iT_11) rfl rfl (tw W_562) kv0 eb8 dX11_tellDifferences_25 ?_
      refine j_iload_n E dX11_tellDifferences_28 2 rfl ?_
      obtain ⟨o9, h⟩ := h
      refine j_iald E kb8 (by rw [lb8]; exact o9) dX11_tellDifferences_29 ?_
      refine j_isub E dX11_tellDifferences_30 ?_
      refine j_i2l E dX11_tellDifferences_31 ?_
      refine j_callV E [.long (((I b6 v2.toNatClampNeg) - (I b8 v2.toNatClampNeg)).toInt64)] [] (c_X11_tellMore (gL G) (gD G) (gY G) v0 (((I b6 v2.toNatClampNeg) - (I b8 v2.toNatClampNeg)).toInt64) Z I L _ hZ kv0 h) (gwV W_488 W_489 W_490 W_40 W_487) rfl ⟨rfl, fy_X11_tellMore⟩ ⟨by decide, by decide⟩ (c := 11) rfl (by decide) kv0 rfl rfl (Nat.le_of_ble_eq_true rfl) ⟨Nat.zero_le _, Nat.zero_le _⟩ dX11_tellDifferences_32 (fun v10 Z11 I12 L13 q14 => ?_)
      obtain ⟨rfl, rfl, h⟩ := q14
      show jJ G 3 35 [(0, .ref v0), (1, .int v1), (2, .int v2)] [] Z I12 L13 0 0
      refine j_iload_n E dX11_tellDifferences_35 1 rfl ?_
      refine j_aload_n E dX11_tellDifferences_36 0 rfl ?_
      obtain ⟨b16, eb16, kb16, lb16⟩ := sh_f hZ kv0 (j := 12) (k := 14) (m := 3) rfl
      have h := h b16 eb16
      refine j_getr E 11 12 rfl rfl (by decide) (by decide) (iw iT_11) rfl rfl (tw W_567) kv0 eb16 dX11_tellDifferences_37 ?_
      refine j_iload_n E dX11_tellDifferences_40 2 rfl ?_
      obtain ⟨o17, h⟩ := h
      refine j_iald E kb16 (by rw [lb16]; exact o17) dX11_tellDifferences_41 ?_
      refine j_aload_n E dX11_tellDifferences_42 0 rfl ?_
      obtain ⟨b18, eb18, kb18, lb18⟩ := sh_f hZ kv0 (j := 11) (k := 14) (m := 3) rfl
      have h := h b18 eb18
      refine j_getr E 11 11 rfl rfl (by decide) (by decide) (iw iT_11) rfl rfl (tw W_562) kv0 eb18 dX11_tellDifferences_43 ?_
      refine j_iload_n E dX11_tellDifferences_46 2 rfl ?_
      obtain ⟨o19, h⟩ := h
      refine j_iald E kb18 (by rw [lb18]; exact o19) dX11_tellDifferences_47 ?_
      refine j_icmp_eq E 55 dX11_tellDifferences_48 (by decide) (fun c20 => ?_) (fun c20 => ?_)
      · have h := h.1 c20
        refine j_iconst E (v := 0) dX11_tellDifferences_55 (by decide) ?_
        refine j_sub [0, 2] rfl ?_
        exact m_X11_tellDifferences_b56 E hZ K8 hK8 v0 v2 v1 (0 : Int32) I12 L13 kv0 h
      · have h := h.2 c20
        refine j_iconst E (v := 1) dX11_tellDifferences_51 (by decide) ?_
        refine j_goto E 56 dX11_tellDifferences_52 (by decide) ?_
        refine j_sub [0, 2] rfl ?_
        exact m_X11_tellDifferences_b56 E hZ K8 hK8 v0 v2 v1 (1 : Int32) I12 L13 kv0 h
set_option maxRecDepth 100000 in
def f_X11_tellDifferences (v0 : Nat) (Z : jZ) (I : jI) (L : jL) (Q : Int32 → jI → jL → Prop) : Prop := (f_X11_tellNothing v0 Z I L (fun I23 L24 => (∃ m8 : Nat, f_X11_tellDifferences_L8  Z Q m8 v0 (0 : Int32) (0 : Int32) I23 L24)))
set_option maxHeartbeats 4000000 in
set_option maxRecDepth 100000 in
theorem c_X11_tellDifferences (l : Launch) (D : va_G) (cy : jC) (v0 : Nat) (Z : jZ) (I : jI) (L : jL) (Q : Int32 → jI → jL → Prop) (hZ : SH Z) (kv0 : jk Z v0 11) (h : f_X11_tellDifferences v0 Z I L Q) : jCt l yX11_tellDifferences w_X11_tellDifferences { frames := 1, cells := 0, slots := 0, locals := 22 } D cy [.ref v0] Z I L (rtI Z Q) := by
  refine jCt_of (cc := cX11_tellDifferences) (maxL := 3) (ret := (some .int)) (by decide +kernel) rfl (Nat.le_of_ble_eq_true rfl) ?_
  intro G eD eY eL E
  subst eD; subst eY; subst eL
  have E : jE G cX11_tellDifferences RX11 w_X11_tellDifferences 3 (some .int) { frames := 1, cells := 0, slots := 0, locals := 22 } (rtI Z Q) := E
  show jJ G 3 0 [(0, .ref v0)] [] Z I L 0 0
  refine j_aload_n E dX11_tellDifferences_0 0 rfl ?_
  refine j_callV E [] [] (c_X11_tellNothing (gL G) (gD G) (gY G) v0 Z I L _ hZ kv0 h) (gwV W_484 W_485 W_486 W_40 W_483) rfl ⟨rfl, fy_X11_tellNothing⟩ ⟨by decide, by decide⟩ (c := 11) rfl (by decide) kv0 rfl rfl (Nat.le_of_ble_eq_true rfl) ⟨Nat.zero_le _, Nat.zero_le _⟩ dX11_tellDifferences_1 (fun v21 Z22 I23 L24 q25 => ?_)
  obtain ⟨rfl, rfl, h⟩ := q25
  show jJ G 3 4 [(0, .ref v0)] [] Z I23 L24 0 0
  refine j_iconst E (v := 0) dX11_tellDifferences_4 (by decide) ?_
  refine j_istore_n E 1 [(1, .int (0 : Int32)), (0, .ref v0)] dX11_tellDifferences_5 rfl (by decide) rfl ?_
  refine j_iconst E (v := 0) dX11_tellDifferences_6 (by decide) ?_
  refine j_istore_n E 2 [(2, .int (0 : Int32)), (1, .int (0 : Int32)), (0, .ref v0)] dX11_tellDifferences_7 rfl (by decide) rfl ?_
  obtain ⟨n27, h⟩ := h
  refine j_sub [2, 1, 0] rfl ?_
  exact m_X11_tellDifferences_L8 E hZ  n27 v0 (0 : Int32) (0 : Int32) I23 L24 kv0 h
set_option maxRecDepth 100000 in
def f_X11_whole (B : Nat × Nat) (v0 : Nat) (v1 : Int32) (Z : jZ) (I : jI) (L : jL) (Q : Int32 → jZ → jI → jL → Prop) : Prop := (∀ b1 : Nat, jr Z v0 2 = some b1 → (f_X8_has b1 v1 Z I L (fun r8 I4 L5 => ((¬ r8 = 0 → (∀ b10 : Nat, jr Z v0 11 = some b10 → (f_X11_sumUp B v0 (-1 : Int32) b10 Z I4 L5 (fun Z12 I13 L14 => (∀ b18 : Nat, jr Z12 v0 2 = some b18 → (∀ b19 : Nat, jr Z12 b18 1 = some b19 → (vp_in v1 24 ∧ (∀ x21 : Int32, x21 = (I13 b19 v1.toNatClampNeg) → (∀ b22 : Nat, jr Z12 v0 2 = some b22 → (∀ b23 : Nat, jr Z12 b22 1 = some b23 → (vp_in v1 24 ∧ (∀ I25 : jI, I25 = jpI I13 b23 v1.toNatClampNeg (9 : Int32) → (∀ b26 : Nat, jr Z12 v0 12 = some b26 → (f_X11_sumUp B v0 (-1 : Int32) b26 Z12 I25 L14 (fun Z28 I29 L30 => (∀ b34 : Nat, jr Z28 v0 2 = some b34 → (∀ b35 : Nat, jr Z28 b34 1 = some b35 → (vp_in v1 24 ∧ (∀ I37 : jI, I37 = jpI I29 b35 v1.toNatClampNeg x21 → (f_X11_tellDifferences v0 Z28 I37 L30 (fun r44 I40 L41 => Q r44 Z28 I40 L41))))))))))))))))))))) ∧ (r8 = 0 → Q (-1 : Int32) Z I4 L5)))))
set_option maxHeartbeats 4000000 in
set_option maxRecDepth 100000 in
theorem c_X11_whole (l : Launch) (D : va_G) (cy : jC) (B : Nat × Nat) (v0 : Nat) (v1 : Int32) (Z : jZ) (I : jI) (L : jL) (Q : Int32 → jZ → jI → jL → Prop) (hZ : SH Z) (hb : jin B Z) (kv0 : jk Z v0 11) (h : f_X11_whole B v0 v1 Z I L Q) : jCtU l yX11_whole w_X11_whole B 8 209 D cy [.ref v0, .int v1] Z I L (urtI B Z Q) := by
  refine jCtU_of (cc := cX11_whole) (maxL := 3) (ret := (some .int)) (by decide +kernel) rfl (Nat.le_of_ble_eq_true rfl) ?_
  intro G eD eY eL E EU
  subst eD; subst eY; subst eL
  have E : jE G cX11_whole RX11 w_X11_whole 3 (some .int) (jrm B 8 209 Z) jRF := E
  have hx : jext Z Z := jext_rfl
  have hc : jle Z Z := jle_rfl
  show jJ G 3 0 [(0, .ref v0), (1, .int v1)] [] Z I L (jcz Z - jcz Z) (jsz Z - jsz Z)
  refine j_aload_n E dX11_whole_0 0 rfl ?_
  obtain ⟨b1, eb1, kb1⟩ := sh_o hZ kv0 (j := 2) (k := 8) rfl
  have h := h b1 eb1
  refine j_getr E 11 2 rfl rfl (by decide) (by decide) (iw iT_11) rfl rfl (tw W_454) kv0 eb1 dX11_whole_1 ?_
  refine j_iload_n E dX11_whole_4 1 rfl ?_
  refine j_callV E [.int v1] [] (c_X8_has (gL G) (gD G) (gY G) b1 v1 Z I L _ hZ kb1 h) (gwV W_463 W_256 W_257 W_254 W_253) rfl ⟨rfl, fy_X8_has⟩ ⟨Nat.le_of_ble_eq_true rfl, Nat.le_of_ble_eq_true rfl⟩ (c := 8) rfl (by decide) kb1 rfl rfl (Nat.le_of_ble_eq_true rfl) (ju_kn hb) dX11_whole_5 (fun v2 Z3 I4 L5 q6 => ?_)
  obtain ⟨rfl, r8, rfl, zr8, h⟩ := q6
  show jJ G 3 8 [(0, .ref v0), (1, .int v1)] [.int r8] Z I4 L5 (jcz Z - jcz Z) (jsz Z - jsz Z)
  refine j_if_ne E 13 dX11_whole_8 (by decide) (fun c9 => ?_) (fun c9 => ?_)
  · have h := h.1 c9
    refine j_aload_n E dX11_whole_13 0 rfl ?_
    refine j_iconst E (v := -1) dX11_whole_14 (by decide) ?_
    refine j_aload_n E dX11_whole_15 0 rfl ?_
    obtain ⟨b10, eb10, kb10, lb10⟩ := sh_f hZ kv0 (j := 11) (k := 14) (m := 3) rfl
    have h := h b10 eb10
    refine j_getr E 11 11 rfl rfl (by decide) (by decide) (iw iT_11) rfl rfl (tw W_562) kv0 eb10 dX11_whole_16 ?_
    refine ju_callV E [.int (-1 : Int32), .ref b10] [] (c_X11_sumUp (gL G) (gD G) (gY G) B v0 (-1 : Int32) b10 Z I4 L5 _ hZ hb kv0 kb10 h) (gwV W_564 W_565 W_566 W_40 W_563) rfl ⟨rfl, fy_X11_sumUp⟩ ⟨Nat.le_of_ble_eq_true rfl, Nat.le_of_ble_eq_true rfl⟩ (c := 11) rfl (by decide) kv0 rfl rfl (Nat.le_of_ble_eq_true rfl) (ju_f hc hb) dX11_whole_19 (fun v11 Z12 I13 L14 q15 j16 => ?_)
    refine ju_next hc j16 ?_
    have hc := jle_trans hc j16
    obtain ⟨yZ12, hZ12, hbZ12, rfl, h⟩ := q15
    have hZ := hZ12
    have hx : jext Z Z12 := jext_trans hx yZ12
    have hb := hbZ12
    have k17 := (yZ12 _ _ kv0).1
    show jJ G 3 22 [(0, .ref v0), (1, .int v1)] [] Z12 I13 L14 (jcz Z12 - jcz Z) (jsz Z12 - jsz Z)
    refine j_aload_n E dX11_whole_22 0 rfl ?_
    obtain ⟨b18, eb18, kb18⟩ := sh_o hZ k17 (j := 2) (k := 8) rfl
    have h := h b18 eb18
    refine j_getr E 11 2 rfl rfl (by decide) (by decide) (iw iT_11) rfl rfl (tw W_454) k17 eb18 dX11_whole_23 ?_
    obtain ⟨b19, eb19, kb19, lb19⟩ := sh_f hZ kb18 (j := 1) (k := 14) (m := 24) rfl
    have h := h b19 eb19
    refine j_getrN E 8 1 rfl rfl (by decide) (by decide) (iw iT_8) rfl rfl (nw_8_1_X11_151) kb18 eb19 dX11_whole_26 ?_
    refine j_iload_n E dX11_whole_29 1 rfl ?_
    obtain ⟨o20, h⟩ := h
    refine j_iald E kb19 (by rw [lb19]; exact o20) dX11_whole_30 ?_
    refine j_topi (fun x21 ex21 => ?_)
    have h := h x21 ex21
    refine j_istore_n E 2 [(2, .int x21), (0, .ref v0), (1, .int v1)] dX11_whole_31 rfl (by decide) rfl ?_
    refine j_aload_n E dX11_whole_32 1 rfl ?_
    obtain ⟨b22, eb22, kb22⟩ := sh_o hZ k17 (j := 2) (k := 8) rfl
    have h := h b22 eb22
    refine j_getr E 11 2 rfl rfl (by decide) (by decide) (iw iT_11) rfl rfl (tw W_454) k17 eb22 dX11_whole_33 ?_
    obtain ⟨b23, eb23, kb23, lb23⟩ := sh_f hZ kb22 (j := 1) (k := 14) (m := 24) rfl
    have h := h b23 eb23
    refine j_getrN E 8 1 rfl rfl (by decide) (by decide) (iw iT_8) rfl rfl (nw_8_1_X11_151) kb22 eb23 dX11_whole_36 ?_
    refine j_iload_n E dX11_whole_39 2 rfl ?_
    refine j_bipush E (v := 9) dX11_whole_40 (by decide) ?_
    obtain ⟨o24, h⟩ := h
    refine j_iast E kb23 (by rw [lb23]; exact o24) dX11_whole_42 ?_
    refine j_nmI (fun I25 eI25 => ?_)
    have h := h I25 eI25
    refine j_aload_n E dX11_whole_43 1 rfl ?_
    refine j_iconst E (v := -1) dX11_whole_44 (by decide) ?_
    refine j_aload_n E dX11_whole_45 1 rfl ?_
    obtain ⟨b26, eb26, kb26, lb26⟩ := sh_f hZ k17 (j := 12) (k := 14) (m := 3) rfl
    have h := h b26 eb26
    refine j_getr E 11 12 rfl rfl (by decide) (by decide) (iw iT_11) rfl rfl (tw W_567) k17 eb26 dX11_whole_46 ?_
    refine ju_callV E [.int (-1 : Int32), .ref b26] [] (c_X11_sumUp (gL G) (gD G) (gY G) B v0 (-1 : Int32) b26 Z12 I25 L14 _ hZ hb k17 kb26 h) (gwV W_564 W_565 W_566 W_40 W_563) rfl ⟨rfl, fy_X11_sumUp⟩ ⟨Nat.le_of_ble_eq_true rfl, Nat.le_of_ble_eq_true rfl⟩ (c := 11) rfl (by decide) k17 rfl rfl (Nat.le_of_ble_eq_true rfl) (ju_f hc hb) dX11_whole_49 (fun v27 Z28 I29 L30 q31 j32 => ?_)
    refine ju_next hc j32 ?_
    have hc := jle_trans hc j32
    obtain ⟨yZ28, hZ28, hbZ28, rfl, h⟩ := q31
    have hZ := hZ28
    have hx : jext Z Z28 := jext_trans hx yZ28
    have hb := hbZ28
    have k33 := (yZ28 _ _ k17).1
    show jJ G 3 52 [(2, .int x21), (0, .ref v0), (1, .int v1)] [] Z28 I29 L30 (jcz Z28 - jcz Z) (jsz Z28 - jsz Z)
    refine j_aload_n E dX11_whole_52 1 rfl ?_
    obtain ⟨b34, eb34, kb34⟩ := sh_o hZ k33 (j := 2) (k := 8) rfl
    have h := h b34 eb34
    refine j_getr E 11 2 rfl rfl (by decide) (by decide) (iw iT_11) rfl rfl (tw W_454) k33 eb34 dX11_whole_53 ?_
    obtain ⟨b35, eb35, kb35, lb35⟩ := sh_f hZ kb34 (j := 1) (k := 14) (m := 24) rfl
    have h := h b35 eb35
    refine j_getrN E 8 1 rfl rfl (by decide) (by decide) (iw iT_8) rfl rfl (nw_8_1_X11_151) kb34 eb35 dX11_whole_56 ?_
    refine j_iload_n E dX11_whole_59 2 rfl ?_
    refine j_iload_n E dX11_whole_60 0 rfl ?_
    obtain ⟨o36, h⟩ := h
    refine j_iast E kb35 (by rw [lb35]; exact o36) dX11_whole_61 ?_
    refine j_nmI (fun I37 eI37 => ?_)
    have h := h I37 eI37
    refine j_aload_n E dX11_whole_62 1 rfl ?_
    refine j_callV E [] [] (c_X11_tellDifferences (gL G) (gD G) (gY G) v0 Z28 I37 L30 _ hZ k33 h) (gwV W_569 W_570 W_571 W_40 W_568) rfl ⟨rfl, fy_X11_tellDifferences⟩ ⟨Nat.le_of_ble_eq_true rfl, Nat.le_of_ble_eq_true rfl⟩ (c := 11) rfl (by decide) k33 rfl rfl (Nat.le_of_ble_eq_true rfl) (ju_kn hb) dX11_whole_63 (fun v38 Z39 I40 L41 q42 => ?_)
    obtain ⟨rfl, r44, rfl, h⟩ := q42
    show jJ G 3 66 [(2, .int x21), (0, .ref v0), (1, .int v1)] [.int r44] Z28 I40 L41 (jcz Z28 - jcz Z) (jsz Z28 - jsz Z)
    exact ju_ireturn E EU hc hb ⟨hx, hZ, hb, _, rfl, h⟩ dX11_whole_66
  · have h := h.2 c9
    refine j_iconst E (v := -1) dX11_whole_11 (by decide) ?_
    exact ju_ireturn E EU hc hb ⟨hx, hZ, hb, _, rfl, h⟩ dX11_whole_12
set_option maxRecDepth 100000 in
def f_X11_mends (v0 : Nat) (v1 : Int32) (Z : jZ) (I : jI) (L : jL) (Q : Int32 → jI → jL → Prop) : Prop := (∀ b1 : Nat, jr Z v0 2 = some b1 → (f_X8_has b1 v1 Z I L (fun r8 I4 L5 => ((¬ r8 = 0 → (∀ b10 : Nat, jr Z v0 2 = some b10 → (∀ b11 : Nat, jr Z b10 1 = some b11 → (vp_in v1 24 ∧ (∀ b13 : Nat, jr Z v0 2 = some b13 → (∀ b14 : Nat, jr Z b13 0 = some b14 → (vp_in v1 24 ∧ (∀ x16 : Int32, x16 = (((9 : Int32) - (I4 b11 v1.toNatClampNeg)) * (I4 b14 v1.toNatClampNeg)) → (f_X11_lead v0 x16 v1 (-1 : Int32) Z I4 L5 (fun I19 L20 => (∀ b23 : Nat, jr Z v0 2 = some b23 → (∀ b24 : Nat, jr Z b23 1 = some b24 → (vp_in v1 24 ∧ (∀ I26 : jI, I26 = jpI I19 b24 v1.toNatClampNeg (9 : Int32) → Q x16 I26 L20)))))))))))))) ∧ (r8 = 0 → Q (-1 : Int32) I4 L5)))))
set_option maxHeartbeats 4000000 in
set_option maxRecDepth 100000 in
theorem c_X11_mends (l : Launch) (D : va_G) (cy : jC) (v0 : Nat) (v1 : Int32) (Z : jZ) (I : jI) (L : jL) (Q : Int32 → jI → jL → Prop) (hZ : SH Z) (kv0 : jk Z v0 11) (h : f_X11_mends v0 v1 Z I L Q) : jCt l yX11_mends w_X11_mends { frames := 4, cells := 0, slots := 0, locals := 89 } D cy [.ref v0, .int v1] Z I L (rtI Z Q) := by
  refine jCt_of (cc := cX11_mends) (maxL := 3) (ret := (some .int)) (by decide +kernel) rfl (Nat.le_of_ble_eq_true rfl) ?_
  intro G eD eY eL E
  subst eD; subst eY; subst eL
  have E : jE G cX11_mends RX11 w_X11_mends 3 (some .int) { frames := 4, cells := 0, slots := 0, locals := 89 } (rtI Z Q) := E
  show jJ G 3 0 [(0, .ref v0), (1, .int v1)] [] Z I L 0 0
  refine j_aload_n E dX11_mends_0 0 rfl ?_
  obtain ⟨b1, eb1, kb1⟩ := sh_o hZ kv0 (j := 2) (k := 8) rfl
  have h := h b1 eb1
  refine j_getr E 11 2 rfl rfl (by decide) (by decide) (iw iT_11) rfl rfl (tw W_454) kv0 eb1 dX11_mends_1 ?_
  refine j_iload_n E dX11_mends_4 1 rfl ?_
  refine j_callV E [.int v1] [] (c_X8_has (gL G) (gD G) (gY G) b1 v1 Z I L _ hZ kb1 h) (gwV W_463 W_256 W_257 W_254 W_253) rfl ⟨rfl, fy_X8_has⟩ ⟨by decide, by decide⟩ (c := 8) rfl (by decide) kb1 rfl rfl (Nat.le_of_ble_eq_true rfl) ⟨Nat.zero_le _, Nat.zero_le _⟩ dX11_mends_5 (fun v2 Z3 I4 L5 q6 => ?_)
  obtain ⟨rfl, r8, rfl, zr8, h⟩ := q6
  show jJ G 3 8 [(0, .ref v0), (1, .int v1)] [.int r8] Z I4 L5 0 0
  refine j_if_ne E 13 dX11_mends_8 (by decide) (fun c9 => ?_) (fun c9 => ?_)
  · have h := h.1 c9
    refine j_bipush E (v := 9) dX11_mends_13 (by decide) ?_
    refine j_aload_n E dX11_mends_15 0 rfl ?_
    obtain ⟨b10, eb10, kb10⟩ := sh_o hZ kv0 (j := 2) (k := 8) rfl
    have h := h b10 eb10
    refine j_getr E 11 2 rfl rfl (by decide) (by decide) (iw iT_11) rfl rfl (tw W_454) kv0 eb10 dX11_mends_16 ?_
    obtain ⟨b11, eb11, kb11, lb11⟩ := sh_f hZ kb10 (j := 1) (k := 14) (m := 24) rfl
    have h := h b11 eb11
    refine j_getrN E 8 1 rfl rfl (by decide) (by decide) (iw iT_8) rfl rfl (nw_8_1_X11_151) kb10 eb11 dX11_mends_19 ?_
    refine j_iload_n E dX11_mends_22 1 rfl ?_
    obtain ⟨o12, h⟩ := h
    refine j_iald E kb11 (by rw [lb11]; exact o12) dX11_mends_23 ?_
    refine j_isub E dX11_mends_24 ?_
    refine j_aload_n E dX11_mends_25 0 rfl ?_
    obtain ⟨b13, eb13, kb13⟩ := sh_o hZ kv0 (j := 2) (k := 8) rfl
    have h := h b13 eb13
    refine j_getr E 11 2 rfl rfl (by decide) (by decide) (iw iT_11) rfl rfl (tw W_454) kv0 eb13 dX11_mends_26 ?_
    obtain ⟨b14, eb14, kb14, lb14⟩ := sh_f hZ kb13 (j := 0) (k := 14) (m := 24) rfl
    have h := h b14 eb14
    refine j_getrN E 8 0 rfl rfl (by decide) (by decide) (iw iT_8) rfl rfl (nw_8_0_X11_148) kb13 eb14 dX11_mends_29 ?_
    refine j_iload_n E dX11_mends_32 1 rfl ?_
    obtain ⟨o15, h⟩ := h
    refine j_iald E kb14 (by rw [lb14]; exact o15) dX11_mends_33 ?_
    refine j_imul E dX11_mends_34 ?_
    refine j_topi (fun x16 ex16 => ?_)
    have h := h x16 ex16
    refine j_istore_n E 2 [(2, .int x16), (0, .ref v0), (1, .int v1)] dX11_mends_35 rfl (by decide) rfl ?_
    refine j_aload_n E dX11_mends_36 1 rfl ?_
    refine j_iload_n E dX11_mends_37 0 rfl ?_
    refine j_iload_n E dX11_mends_38 2 rfl ?_
    refine j_iconst E (v := -1) dX11_mends_39 (by decide) ?_
    refine j_callV E [.int x16, .int v1, .int (-1 : Int32)] [] (c_X11_lead (gL G) (gD G) (gY G) v0 x16 v1 (-1 : Int32) Z I4 L5 _ hZ kv0 h) (gwV W_517 W_518 W_519 W_40 W_516) rfl ⟨rfl, fy_X11_lead⟩ ⟨by decide, by decide⟩ (c := 11) rfl (by decide) kv0 rfl rfl (Nat.le_of_ble_eq_true rfl) ⟨Nat.zero_le _, Nat.zero_le _⟩ dX11_mends_40 (fun v17 Z18 I19 L20 q21 => ?_)
    obtain ⟨rfl, rfl, h⟩ := q21
    show jJ G 3 43 [(2, .int x16), (0, .ref v0), (1, .int v1)] [] Z I19 L20 0 0
    refine j_aload_n E dX11_mends_43 1 rfl ?_
    obtain ⟨b23, eb23, kb23⟩ := sh_o hZ kv0 (j := 2) (k := 8) rfl
    have h := h b23 eb23
    refine j_getr E 11 2 rfl rfl (by decide) (by decide) (iw iT_11) rfl rfl (tw W_454) kv0 eb23 dX11_mends_44 ?_
    obtain ⟨b24, eb24, kb24, lb24⟩ := sh_f hZ kb23 (j := 1) (k := 14) (m := 24) rfl
    have h := h b24 eb24
    refine j_getrN E 8 1 rfl rfl (by decide) (by decide) (iw iT_8) rfl rfl (nw_8_1_X11_151) kb23 eb24 dX11_mends_47 ?_
    refine j_iload_n E dX11_mends_50 2 rfl ?_
    refine j_bipush E (v := 9) dX11_mends_51 (by decide) ?_
    obtain ⟨o25, h⟩ := h
    refine j_iast E kb24 (by rw [lb24]; exact o25) dX11_mends_53 ?_
    refine j_nmI (fun I26 eI26 => ?_)
    have h := h I26 eI26
    refine j_iload_n E dX11_mends_54 0 rfl ?_
    exact j_ireturn E ⟨rfl, _, rfl, h⟩ (Nat.zero_le _) (Nat.zero_le _) dX11_mends_55
  · have h := h.2 c9
    refine j_iconst E (v := -1) dX11_mends_11 (by decide) ?_
    exact j_ireturn E ⟨rfl, _, rfl, h⟩ (Nat.zero_le _) (Nat.zero_le _) dX11_mends_12
set_option maxRecDepth 100000 in
def f_X11_shut (B : Nat × Nat) (v0 : Nat) (v1 : Int32) (Z : jZ) (I : jI) (L : jL) (Q : Int32 → jZ → jI → jL → Prop) : Prop := (∀ b1 : Nat, jr Z v0 2 = some b1 → (f_X8_has b1 v1 Z I L (fun r8 I4 L5 => ((¬ r8 = 0 → (∀ b10 : Nat, jr Z v0 11 = some b10 → (f_X11_sumUp B v0 (-1 : Int32) b10 Z I4 L5 (fun Z12 I13 L14 => (∀ b18 : Nat, jr Z12 v0 12 = some b18 → (f_X11_sumUp B v0 v1 b18 Z12 I13 L14 (fun Z20 I21 L22 => (f_X11_tellDifferences v0 Z20 I21 L22 (fun r32 I28 L29 => Q r32 Z20 I28 L29))))))))) ∧ (r8 = 0 → Q (-1 : Int32) Z I4 L5)))))
set_option maxHeartbeats 4000000 in
set_option maxRecDepth 100000 in
theorem c_X11_shut (l : Launch) (D : va_G) (cy : jC) (B : Nat × Nat) (v0 : Nat) (v1 : Int32) (Z : jZ) (I : jI) (L : jL) (Q : Int32 → jZ → jI → jL → Prop) (hZ : SH Z) (hb : jin B Z) (kv0 : jk Z v0 11) (h : f_X11_shut B v0 v1 Z I L Q) : jCtU l yX11_shut w_X11_shut B 8 209 D cy [.ref v0, .int v1] Z I L (urtI B Z Q) := by
  refine jCtU_of (cc := cX11_shut) (maxL := 2) (ret := (some .int)) (by decide +kernel) rfl (Nat.le_of_ble_eq_true rfl) ?_
  intro G eD eY eL E EU
  subst eD; subst eY; subst eL
  have E : jE G cX11_shut RX11 w_X11_shut 2 (some .int) (jrm B 8 209 Z) jRF := E
  have hx : jext Z Z := jext_rfl
  have hc : jle Z Z := jle_rfl
  show jJ G 2 0 [(0, .ref v0), (1, .int v1)] [] Z I L (jcz Z - jcz Z) (jsz Z - jsz Z)
  refine j_aload_n E dX11_shut_0 0 rfl ?_
  obtain ⟨b1, eb1, kb1⟩ := sh_o hZ kv0 (j := 2) (k := 8) rfl
  have h := h b1 eb1
  refine j_getr E 11 2 rfl rfl (by decide) (by decide) (iw iT_11) rfl rfl (tw W_454) kv0 eb1 dX11_shut_1 ?_
  refine j_iload_n E dX11_shut_4 1 rfl ?_
  refine j_callV E [.int v1] [] (c_X8_has (gL G) (gD G) (gY G) b1 v1 Z I L _ hZ kb1 h) (gwV W_463 W_256 W_257 W_254 W_253) rfl ⟨rfl, fy_X8_has⟩ ⟨Nat.le_of_ble_eq_true rfl, Nat.le_of_ble_eq_true rfl⟩ (c := 8) rfl (by decide) kb1 rfl rfl (Nat.le_of_ble_eq_true rfl) (ju_kn hb) dX11_shut_5 (fun v2 Z3 I4 L5 q6 => ?_)
  obtain ⟨rfl, r8, rfl, zr8, h⟩ := q6
  show jJ G 2 8 [(0, .ref v0), (1, .int v1)] [.int r8] Z I4 L5 (jcz Z - jcz Z) (jsz Z - jsz Z)
  refine j_if_ne E 13 dX11_shut_8 (by decide) (fun c9 => ?_) (fun c9 => ?_)
  · have h := h.1 c9
    refine j_aload_n E dX11_shut_13 0 rfl ?_
    refine j_iconst E (v := -1) dX11_shut_14 (by decide) ?_
    refine j_aload_n E dX11_shut_15 0 rfl ?_
    obtain ⟨b10, eb10, kb10, lb10⟩ := sh_f hZ kv0 (j := 11) (k := 14) (m := 3) rfl
    have h := h b10 eb10
    refine j_getr E 11 11 rfl rfl (by decide) (by decide) (iw iT_11) rfl rfl (tw W_562) kv0 eb10 dX11_shut_16 ?_
    refine ju_callV E [.int (-1 : Int32), .ref b10] [] (c_X11_sumUp (gL G) (gD G) (gY G) B v0 (-1 : Int32) b10 Z I4 L5 _ hZ hb kv0 kb10 h) (gwV W_564 W_565 W_566 W_40 W_563) rfl ⟨rfl, fy_X11_sumUp⟩ ⟨Nat.le_of_ble_eq_true rfl, Nat.le_of_ble_eq_true rfl⟩ (c := 11) rfl (by decide) kv0 rfl rfl (Nat.le_of_ble_eq_true rfl) (ju_f hc hb) dX11_shut_19 (fun v11 Z12 I13 L14 q15 j16 => ?_)
    refine ju_next hc j16 ?_
    have hc := jle_trans hc j16
    obtain ⟨yZ12, hZ12, hbZ12, rfl, h⟩ := q15
    have hZ := hZ12
    have hx : jext Z Z12 := jext_trans hx yZ12
    have hb := hbZ12
    have k17 := (yZ12 _ _ kv0).1
    show jJ G 2 22 [(0, .ref v0), (1, .int v1)] [] Z12 I13 L14 (jcz Z12 - jcz Z) (jsz Z12 - jsz Z)
    refine j_aload_n E dX11_shut_22 0 rfl ?_
    refine j_iload_n E dX11_shut_23 1 rfl ?_
    refine j_aload_n E dX11_shut_24 0 rfl ?_
    obtain ⟨b18, eb18, kb18, lb18⟩ := sh_f hZ k17 (j := 12) (k := 14) (m := 3) rfl
    have h := h b18 eb18
    refine j_getr E 11 12 rfl rfl (by decide) (by decide) (iw iT_11) rfl rfl (tw W_567) k17 eb18 dX11_shut_25 ?_
    refine ju_callV E [.int v1, .ref b18] [] (c_X11_sumUp (gL G) (gD G) (gY G) B v0 v1 b18 Z12 I13 L14 _ hZ hb k17 kb18 h) (gwV W_564 W_565 W_566 W_40 W_563) rfl ⟨rfl, fy_X11_sumUp⟩ ⟨Nat.le_of_ble_eq_true rfl, Nat.le_of_ble_eq_true rfl⟩ (c := 11) rfl (by decide) k17 rfl rfl (Nat.le_of_ble_eq_true rfl) (ju_f hc hb) dX11_shut_28 (fun v19 Z20 I21 L22 q23 j24 => ?_)
    refine ju_next hc j24 ?_
    have hc := jle_trans hc j24
    obtain ⟨yZ20, hZ20, hbZ20, rfl, h⟩ := q23
    have hZ := hZ20
    have hx : jext Z Z20 := jext_trans hx yZ20
    have hb := hbZ20
    have k25 := (yZ20 _ _ k17).1
    show jJ G 2 31 [(0, .ref v0), (1, .int v1)] [] Z20 I21 L22 (jcz Z20 - jcz Z) (jsz Z20 - jsz Z)
    refine j_aload_n E dX11_shut_31 0 rfl ?_
    refine j_callV E [] [] (c_X11_tellDifferences (gL G) (gD G) (gY G) v0 Z20 I21 L22 _ hZ k25 h) (gwV W_569 W_570 W_571 W_40 W_568) rfl ⟨rfl, fy_X11_tellDifferences⟩ ⟨Nat.le_of_ble_eq_true rfl, Nat.le_of_ble_eq_true rfl⟩ (c := 11) rfl (by decide) k25 rfl rfl (Nat.le_of_ble_eq_true rfl) (ju_kn hb) dX11_shut_32 (fun v26 Z27 I28 L29 q30 => ?_)
    obtain ⟨rfl, r32, rfl, h⟩ := q30
    show jJ G 2 35 [(0, .ref v0), (1, .int v1)] [.int r32] Z20 I28 L29 (jcz Z20 - jcz Z) (jsz Z20 - jsz Z)
    exact ju_ireturn E EU hc hb ⟨hx, hZ, hb, _, rfl, h⟩ dX11_shut_35
  · have h := h.2 c9
    refine j_iconst E (v := -1) dX11_shut_11 (by decide) ?_
    exact ju_ireturn E EU hc hb ⟨hx, hZ, hb, _, rfl, h⟩ dX11_shut_12
set_option maxRecDepth 100000 in
def f_X11_weigh_b52 (K18 : Nat → Int32 → Int32 → jI → jL → Prop) (Z : jZ) (Q : jI → jL → Prop) (v0 : Nat) (v1 : Int32) (v2 : Int32) (I : jI) (L : jL) : Prop := (∀ x1 : Int32, x1 = v2 + 1 → K18 v0 v1 x1 I L)
set_option maxHeartbeats 4000000 in
set_option maxRecDepth 100000 in
theorem m_X11_weigh_b52 {G : jG} {Z : jZ} {Q : jI → jL → Prop} (E : jE G cX11_weigh RX11 w_X11_weigh 4 none { frames := 5, cells := 0, slots := 0, locals := 137 } (rtV Z Q)) (hZ : SH Z) (K18 : Nat → Int32 → Int32 → jI → jL → Prop) (hK18 : ∀ (v0 : Nat) (v1 : Int32) (v2 : Int32) (I : jI) (L : jL), jk Z v0 11 → K18 v0 v1 v2 I L → jJ G 4 18 [(0, .ref v0), (1, .int v1), (2, .int v2)] [] Z I L 0 0) (v0 : Nat) (v1 : Int32) (v2 : Int32) (I : jI) (L : jL) (kv0 : jk Z v0 11) (h : f_X11_weigh_b52 K18 Z Q v0 v1 v2 I L) : jJ G 4 52 [(0, .ref v0), (1, .int v1), (2, .int v2)] [] Z I L 0 0 := by
  obtain ⟨x1, ex1⟩ : ∃ y : Int32, y = v2 + 1 := ⟨_, rfl⟩
  have h := h x1 ex1
  refine j_iinc E x1 [(2, .int x1), (0, .ref v0), (1, .int v1)] dX11_weigh_52 2 rfl (by rw [ex1]; rfl) (by decide) rfl ?_
  refine j_goto E 18 dX11_weigh_55 (by decide) ?_
  refine j_sub [1, 2, 0] rfl ?_
  exact hK18 v0 v1 x1 I L kv0 h
set_option maxRecDepth 100000 in
def f_X11_weigh_L18  (Z : jZ) (Q : jI → jL → Prop) : Nat → Nat → Int32 → Int32 → jI → jL → Prop
  | 0 => fun _ _ _ _ _ => False
  | n + 1 => fun v0 v1 v2 I L => (((I v0 4) ≤ v2 → Q I L) ∧ (¬ ((I v0 4) ≤ v2) → (f_X11_find v0 v2 Z I L (fun r9 I5 L6 => ((r9 = none → f_X11_weigh_b52 (f_X11_weigh_L18 Z Q n) Z Q v0 v1 v2 I5 L6) ∧ (∀ b10 : Nat, r9 = some b10 → (∀ b12 : Nat, jr Z b10 8 = some b12 → (∀ b13 : Nat, jr Z v0 13 = some b13 → (∀ b14 : Nat, jr Z v0 14 = some b14 → (f_X6_addOffers b12 v1 b13 b14 Z I5 L6 (fun I17 L18 => f_X11_weigh_b52 (f_X11_weigh_L18 Z Q n) Z Q v0 v1 v2 I17 L18)))))))))))
set_option maxHeartbeats 4000000 in
set_option maxRecDepth 100000 in
theorem m_X11_weigh_L18 {G : jG} {Z : jZ} {Q : jI → jL → Prop} (E : jE G cX11_weigh RX11 w_X11_weigh 4 none { frames := 5, cells := 0, slots := 0, locals := 137 } (rtV Z Q)) (hZ : SH Z)  : ∀ (n : Nat) (v0 : Nat) (v1 : Int32) (v2 : Int32) (I : jI) (L : jL), jk Z v0 11 → f_X11_weigh_L18  Z Q n v0 v1 v2 I L → jJ G 4 18 [(0, .ref v0), (1, .int v1), (2, .int v2)] [] Z I L 0 0 := by
  intro n
  induction n with
  | zero => intro v0 v1 v2 I L _ h; exact h.elim
  | succ n ih =>
    intro v0 v1 v2 I L kv0 h
    have h : (((I v0 4) ≤ v2 → Q I L) ∧ (¬ ((I v0 4) ≤ v2) → (f_X11_find v0 v2 Z I L (fun r9 I5 L6 => ((r9 = none → f_X11_weigh_b52 (f_X11_weigh_L18 Z Q n) Z Q v0 v1 v2 I5 L6) ∧ (∀ b10 : Nat, r9 = some b10 → (∀ b12 : Nat, jr Z b10 8 = some b12 → (∀ b13 : Nat, jr Z v0 13 = some b13 → (∀ b14 : Nat, jr Z v0 14 = some b14 → (f_X6_addOffers b12 v1 b13 b14 Z I5 L6 (fun I17 L18 => f_X11_weigh_b52 (f_X11_weigh_L18 Z Q n) Z Q v0 v1 v2 I17 L18))))))))))) := h
    obtain ⟨K18, eK18⟩ : ∃ K : Nat → Int32 → Int32 → jI → jL → Prop, K = f_X11_weigh_L18  Z Q n := ⟨_, rfl⟩
    have hK18 := ih
    clear eK18 K18
    generalize f_X11_weigh_L18  Z Q n = K18 at hK18 h
    refine j_iload_n E dX11_weigh_18 2 rfl ?_
    refine j_aload_n E dX11_weigh_19 0 rfl ?_
    refine j_geti E 11 4 rfl rfl (by decide) (by decide) (iw iT_11) rfl rfl (tw W_431) kv0 dX11_weigh_20 ?_
    refine j_icmp_ge E 58 dX11_weigh_23 (by decide) (fun c2 => ?_) (fun c2 => ?_)
    · have h := h.1 c2
      exact j_return E ⟨rfl, rfl, h⟩ (Nat.zero_le _) (Nat.zero_le _) dX11_weigh_58
    · have h := h.2 c2
      refine j_aload_n E dX11_weigh_26 0 rfl ?_
      refine j_iload_n E dX11_weigh_27 2 rfl ?_
      refine j_callV E [.int v2] [] (c_X11_find (gL G) (gD G) (gY G) v0 v2 Z I L _ hZ kv0 h) (gwV W_437 W_438 W_439 W_40 W_436) rfl ⟨rfl, fy_X11_find⟩ ⟨by decide, by decide⟩ (c := 11) rfl (by decide) kv0 rfl rfl (Nat.le_of_ble_eq_true rfl) ⟨Nat.zero_le _, Nat.zero_le _⟩ dX11_weigh_28 (fun v3 Z4 I5 L6 q7 => ?_)
      obtain ⟨rfl, r9, rfl, zr9, h⟩ := q7
      show jJ G 4 31 [(0, .ref v0), (1, .int v1), (2, .int v2)] (va_rf r9 :: []) Z I5 L6 0 0
      rcases c11 : r9 with _ | b10
      · have h := h.1 c11
        refine j_rfN rfl ?_
        refine j_astore_nN E 3 [(3, .null), (0, .ref v0), (1, .int v1), (2, .int v2)] dX11_weigh_31 rfl (by decide) rfl ?_
        refine j_aload_nN E dX11_weigh_32 0 rfl ?_
        refine j_ifnullN E 52 dX11_weigh_33 (by decide) ?_
        refine j_sub [1, 2, 3] rfl ?_
        exact m_X11_weigh_b52 E hZ K18 hK18 v0 v1 v2 I5 L6 kv0 h
      · have h := h.2 b10 c11
        have kb10 := zr9 b10 c11
        refine j_rfS rfl ?_
        refine j_astore_n E 3 [(3, .ref b10), (0, .ref v0), (1, .int v1), (2, .int v2)] dX11_weigh_31 rfl (by decide) rfl ?_
        refine j_aload_n E dX11_weigh_32 0 rfl ?_
        refine j_ifnull E dX11_weigh_33 ?_
        refine j_aload_n E dX11_weigh_36 0 rfl ?_
        obtain ⟨b12, eb12, kb12⟩ := sh_o hZ kb10 (j := 8) (k := 6) rfl
        have h := h b12 eb12
        refine j_getrN E 5 8 rfl rfl (by decide) (by decide) (iw iT_5) rfl rfl (nw_5_8_X11_263) kb10 eb12 dX11_weigh_37 ?_
        refine j_iload_n E dX11_weigh_40 2 rfl ?_
        refine j_aload_n E dX11_weigh_41 1 rfl ?_
        obtain ⟨b13, eb13, kb13, lb13⟩ := sh_f hZ kv0 (j := 13) (k := 14) (m := 21) rfl
        have h := h b13 eb13
        refine j_getr E 11 13 rfl rfl (by decide) (by decide) (iw iT_11) rfl rfl (tw W_572) kv0 eb13 dX11_weigh_42 ?_
        refine j_aload_n E dX11_weigh_45 1 rfl ?_
        obtain ⟨b14, eb14, kb14, lb14⟩ := sh_f hZ kv0 (j := 14) (k := 14) (m := 21) rfl
        have h := h b14 eb14
        refine j_getr E 11 14 rfl rfl (by decide) (by decide) (iw iT_11) rfl rfl (tw W_573) kv0 eb14 dX11_weigh_46 ?_
        refine j_callV E [.int v1, .ref b13, .ref b14] [] (c_X6_addOffers (gL G) (gD G) (gY G) b12 v1 b13 b14 Z I5 L6 _ hZ kb12 kb13 kb14 h) (gwV W_575 W_576 W_577 W_33 W_574) rfl ⟨rfl, fy_X6_addOffers⟩ ⟨by decide, by decide⟩ (c := 6) rfl (by decide) kb12 rfl rfl (Nat.le_of_ble_eq_true rfl) ⟨Nat.zero_le _, Nat.zero_le _⟩ dX11_weigh_49 (fun v15 Z16 I17 L18 q19 => ?_)
        obtain ⟨rfl, rfl, h⟩ := q19
        show jJ G 4 52 [(3, .ref b10), (0, .ref v0), (1, .int v1), (2, .int v2)] [] Z I17 L18 0 0
        refine j_sub [1, 2, 3] rfl ?_
        exact m_X11_weigh_b52 E hZ K18 hK18 v0 v1 v2 I17 L18 kv0 h
set_option maxRecDepth 100000 in
def f_X11_weigh (v0 : Nat) (v1 : Int32) (Z : jZ) (I : jI) (L : jL) (Q : jI → jL → Prop) : Prop := (∀ b21 : Nat, jr Z v0 13 = some b21 → (f_J7_fill_53178 b21 (0 : Int32) Z I L (fun I24 L25 => (∀ b28 : Nat, jr Z v0 14 = some b28 → (f_J7_fill_53178 b28 (0 : Int32) Z I24 L25 (fun I31 L32 => (∃ m18 : Nat, f_X11_weigh_L18  Z Q m18 v0 v1 (0 : Int32) I31 L32)))))))
set_option maxHeartbeats 4000000 in
set_option maxRecDepth 100000 in
theorem c_X11_weigh (l : Launch) (D : va_G) (cy : jC) (v0 : Nat) (v1 : Int32) (Z : jZ) (I : jI) (L : jL) (Q : jI → jL → Prop) (hZ : SH Z) (kv0 : jk Z v0 11) (h : f_X11_weigh v0 v1 Z I L Q) : jCt l yX11_weigh w_X11_weigh { frames := 5, cells := 0, slots := 0, locals := 137 } D cy [.ref v0, .int v1] Z I L (rtV Z Q) := by
  refine jCt_of (cc := cX11_weigh) (maxL := 4) (ret := none) (by decide +kernel) rfl (Nat.le_of_ble_eq_true rfl) ?_
  intro G eD eY eL E
  subst eD; subst eY; subst eL
  have E : jE G cX11_weigh RX11 w_X11_weigh 4 none { frames := 5, cells := 0, slots := 0, locals := 137 } (rtV Z Q) := E
  show jJ G 4 0 [(0, .ref v0), (1, .int v1)] [] Z I L 0 0
  refine j_aload_n E dX11_weigh_0 0 rfl ?_
  obtain ⟨b21, eb21, kb21, lb21⟩ := sh_f hZ kv0 (j := 13) (k := 14) (m := 21) rfl
  have h := h b21 eb21
  refine j_getr E 11 13 rfl rfl (by decide) (by decide) (iw iT_11) rfl rfl (tw W_572) kv0 eb21 dX11_weigh_1 ?_
  refine j_iconst E (v := 0) dX11_weigh_4 (by decide) ?_
  refine j_callS E [.ref b21, .int (0 : Int32)] [] (c_J7_fill_53178 (gL G) (gD G) (gY G) b21 (0 : Int32) Z I L _ hZ kb21 h) (gwS W_435 W_22 W_17 W_20) rfl fy_J7_fill_53178 ⟨by decide, by decide⟩ rfl rfl (Nat.le_of_ble_eq_true rfl) ⟨Nat.zero_le _, Nat.zero_le _⟩ dX11_weigh_5 (fun v22 Z23 I24 L25 q26 => ?_)
  obtain ⟨rfl, rfl, h⟩ := q26
  show jJ G 4 8 [(0, .ref v0), (1, .int v1)] [] Z I24 L25 0 0
  refine j_aload_n E dX11_weigh_8 0 rfl ?_
  obtain ⟨b28, eb28, kb28, lb28⟩ := sh_f hZ kv0 (j := 14) (k := 14) (m := 21) rfl
  have h := h b28 eb28
  refine j_getr E 11 14 rfl rfl (by decide) (by decide) (iw iT_11) rfl rfl (tw W_573) kv0 eb28 dX11_weigh_9 ?_
  refine j_iconst E (v := 0) dX11_weigh_12 (by decide) ?_
  refine j_callS E [.ref b28, .int (0 : Int32)] [] (c_J7_fill_53178 (gL G) (gD G) (gY G) b28 (0 : Int32) Z I24 L25 _ hZ kb28 h) (gwS W_435 W_22 W_17 W_20) rfl fy_J7_fill_53178 ⟨by decide, by decide⟩ rfl rfl (Nat.le_of_ble_eq_true rfl) ⟨Nat.zero_le _, Nat.zero_le _⟩ dX11_weigh_13 (fun v29 Z30 I31 L32 q33 => ?_)
  obtain ⟨rfl, rfl, h⟩ := q33
  show jJ G 4 16 [(0, .ref v0), (1, .int v1)] [] Z I31 L32 0 0
  refine j_iconst E (v := 0) dX11_weigh_16 (by decide) ?_
  refine j_istore_n E 2 [(2, .int (0 : Int32)), (0, .ref v0), (1, .int v1)] dX11_weigh_17 rfl (by decide) rfl ?_
  obtain ⟨n35, h⟩ := h
  refine j_sub [1, 2, 0] rfl ?_
  exact m_X11_weigh_L18 E hZ  n35 v0 v1 (0 : Int32) I31 L32 kv0 h
set_option maxRecDepth 100000 in
def f_X11_weighAlone_b51 (B : Nat × Nat) (K2 : Nat → Int32 → Int32 → jZ → jI → jL → Prop) (Q : jZ → jI → jL → Prop) (v0 : Nat) (v1 : Int32) (v2 : Int32) (Z : jZ) (I : jI) (L : jL) : Prop := (∀ x1 : Int32, x1 = v2 + 1 → K2 v0 v1 x1 Z I L)
set_option maxHeartbeats 4000000 in
set_option maxRecDepth 100000 in
theorem m_X11_weighAlone_b51 {G : jG} {B : Nat × Nat} {Z0 : jZ} {Q : jZ → jI → jL → Prop} (E : jE G cX11_weighAlone RX11 w_X11_weighAlone 4 none (jrm B 6 163 Z0) jRF) (EU : jEU G B Z0 (urtV B Z0 Q)) (K2 : Nat → Int32 → Int32 → jZ → jI → jL → Prop) (hK2 : ∀ (v0 : Nat) (v1 : Int32) (v2 : Int32) (Z : jZ) (I : jI) (L : jL), SH Z → jext Z0 Z → jle Z0 Z → jin B Z → jk Z v0 11 → K2 v0 v1 v2 Z I L → jJ G 4 2 [(0, .ref v0), (1, .int v1), (2, .int v2)] [] Z I L (jcz Z - jcz Z0) (jsz Z - jsz Z0)) (v0 : Nat) (v1 : Int32) (v2 : Int32) (Z : jZ) (I : jI) (L : jL) (hZ : SH Z) (hx : jext Z0 Z) (hc : jle Z0 Z) (hb : jin B Z) (kv0 : jk Z v0 11) (h : f_X11_weighAlone_b51 B K2 Q v0 v1 v2 Z I L) : jJ G 4 51 [(0, .ref v0), (1, .int v1), (2, .int v2)] [] Z I L (jcz Z - jcz Z0) (jsz Z - jsz Z0) := by
  obtain ⟨x1, ex1⟩ : ∃ y : Int32, y = v2 + 1 := ⟨_, rfl⟩
  have h := h x1 ex1
  refine j_iinc E x1 [(2, .int x1), (0, .ref v0), (1, .int v1)] dX11_weighAlone_51 2 rfl (by rw [ex1]; rfl) (by decide) rfl ?_
  refine j_goto E 2 dX11_weighAlone_54 (by decide) ?_
  refine j_sub [1, 2, 0] rfl ?_
  exact hK2 v0 v1 x1 Z I L hZ hx hc hb kv0 h
set_option maxRecDepth 100000 in
def f_X11_weighAlone_L2 (B : Nat × Nat)  (Q : jZ → jI → jL → Prop) : Nat → Nat → Int32 → Int32 → jZ → jI → jL → Prop
  | 0 => fun _ _ _ _ _ _ => False
  | n + 1 => fun v0 v1 v2 Z I L => (((I v0 4) ≤ v2 → (f_X11_weigh v0 v1 Z I L (fun I5 L6 => Q Z I5 L6))) ∧ (¬ ((I v0 4) ≤ v2) → (f_X11_find v0 v2 Z I L (fun r15 I11 L12 => ((r15 = none → f_X11_weighAlone_b51 B (f_X11_weighAlone_L2 B Q n) Q v0 v1 v2 Z I11 L12) ∧ (∀ b16 : Nat, r15 = some b16 → (∀ b18 : Nat, jr Z b16 8 = some b18 → (f_X6_lay b18 (I11 b16 3) (I11 b16 4) (-1 : Int32) Z I11 L12 (fun I21 L22 => (∀ b25 : Nat, jr Z b16 8 = some b25 → (f_X6_survey B b25 Z I21 L22 (fun Z27 I28 L29 => (∀ b34 : Nat, jr Z27 b16 8 = some b34 → (f_X6_raiseTo B b34 v1 Z27 I28 L29 (fun Z36 I37 L38 => f_X11_weighAlone_b51 B (f_X11_weighAlone_L2 B Q n) Q v0 v1 v2 Z36 I37 L38)))))))))))))))
set_option maxHeartbeats 4000000 in
set_option maxRecDepth 100000 in
theorem m_X11_weighAlone_L2 {G : jG} {Z0 : jZ} {B : Nat × Nat} {Q : jZ → jI → jL → Prop} (E : jE G cX11_weighAlone RX11 w_X11_weighAlone 4 none (jrm B 6 163 Z0) jRF) (EU : jEU G B Z0 (urtV B Z0 Q))  : ∀ (n : Nat) (v0 : Nat) (v1 : Int32) (v2 : Int32) (Z : jZ) (I : jI) (L : jL), SH Z → jext Z0 Z → jle Z0 Z → jin B Z → jk Z v0 11 → f_X11_weighAlone_L2 B  Q n v0 v1 v2 Z I L → jJ G 4 2 [(0, .ref v0), (1, .int v1), (2, .int v2)] [] Z I L (jcz Z - jcz Z0) (jsz Z - jsz Z0) := by
  intro n
  induction n with
  | zero => intro v0 v1 v2 Z I L _ _ _ _ _ h; exact h.elim
  | succ n ih =>
    intro v0 v1 v2 Z I L hZ hx hc hb kv0 h
    have h : (((I v0 4) ≤ v2 → (f_X11_weigh v0 v1 Z I L (fun I5 L6 => Q Z I5 L6))) ∧ (¬ ((I v0 4) ≤ v2) → (f_X11_find v0 v2 Z I L (fun r15 I11 L12 => ((r15 = none → f_X11_weighAlone_b51 B (f_X11_weighAlone_L2 B Q n) Q v0 v1 v2 Z I11 L12) ∧ (∀ b16 : Nat, r15 = some b16 → (∀ b18 : Nat, jr Z b16 8 = some b18 → (f_X6_lay b18 (I11 b16 3) (I11 b16 4) (-1 : Int32) Z I11 L12 (fun I21 L22 => (∀ b25 : Nat, jr Z b16 8 = some b25 → (f_X6_survey B b25 Z I21 L22 (fun Z27 I28 L29 => (∀ b34 : Nat, jr Z27 b16 8 = some b34 → (f_X6_raiseTo B b34 v1 Z27 I28 L29 (fun Z36 I37 L38 => f_X11_weighAlone_b51 B (f_X11_weighAlone_L2 B Q n) Q v0 v1 v2 Z36 I37 L38))))))))))))))) := h
    obtain ⟨K2, eK2⟩ : ∃ K : Nat → Int32 → Int32 → jZ → jI → jL → Prop, K = f_X11_weighAlone_L2 B  Q n := ⟨_, rfl⟩
    have hK2 := ih
    clear eK2 K2
    generalize f_X11_weighAlone_L2 B  Q n = K2 at hK2 h
    refine j_iload_n E dX11_weighAlone_2 2 rfl ?_
    refine j_aload_n E dX11_weighAlone_3 0 rfl ?_
    refine j_geti E 11 4 rfl rfl (by decide) (by decide) (iw iT_11) rfl rfl (tw W_431) kv0 dX11_weighAlone_4 ?_
    refine j_icmp_ge E 57 dX11_weighAlone_7 (by decide) (fun c2 => ?_) (fun c2 => ?_)
    · have h := h.1 c2
      refine j_aload_n E dX11_weighAlone_57 0 rfl ?_
      refine j_iload_n E dX11_weighAlone_58 1 rfl ?_
      refine j_callV E [.int v1] [] (c_X11_weigh (gL G) (gD G) (gY G) v0 v1 Z I L _ hZ kv0 h) (gwV W_579 W_580 W_581 W_40 W_578) rfl ⟨rfl, fy_X11_weigh⟩ ⟨Nat.le_of_ble_eq_true rfl, Nat.le_of_ble_eq_true rfl⟩ (c := 11) rfl (by decide) kv0 rfl rfl (Nat.le_of_ble_eq_true rfl) (ju_kn hb) dX11_weighAlone_59 (fun v3 Z4 I5 L6 q7 => ?_)
      obtain ⟨rfl, rfl, h⟩ := q7
      show jJ G 4 62 [(0, .ref v0), (1, .int v1), (2, .int v2)] [] Z I5 L6 (jcz Z - jcz Z0) (jsz Z - jsz Z0)
      exact ju_return E EU hc hb ⟨hx, hZ, hb, rfl, h⟩ dX11_weighAlone_62
    · have h := h.2 c2
      refine j_aload_n E dX11_weighAlone_10 0 rfl ?_
      refine j_iload_n E dX11_weighAlone_11 2 rfl ?_
      refine j_callV E [.int v2] [] (c_X11_find (gL G) (gD G) (gY G) v0 v2 Z I L _ hZ kv0 h) (gwV W_437 W_438 W_439 W_40 W_436) rfl ⟨rfl, fy_X11_find⟩ ⟨Nat.le_of_ble_eq_true rfl, Nat.le_of_ble_eq_true rfl⟩ (c := 11) rfl (by decide) kv0 rfl rfl (Nat.le_of_ble_eq_true rfl) (ju_kn hb) dX11_weighAlone_12 (fun v9 Z10 I11 L12 q13 => ?_)
      obtain ⟨rfl, r15, rfl, zr15, h⟩ := q13
      show jJ G 4 15 [(0, .ref v0), (1, .int v1), (2, .int v2)] (va_rf r15 :: []) Z I11 L12 (jcz Z - jcz Z0) (jsz Z - jsz Z0)
      rcases c17 : r15 with _ | b16
      · have h := h.1 c17
        refine j_rfN rfl ?_
        refine j_astore_nN E 3 [(3, .null), (0, .ref v0), (1, .int v1), (2, .int v2)] dX11_weighAlone_15 rfl (by decide) rfl ?_
        refine j_aload_nN E dX11_weighAlone_16 0 rfl ?_
        refine j_ifnullN E 51 dX11_weighAlone_17 (by decide) ?_
        refine j_sub [1, 2, 3] rfl ?_
        exact m_X11_weighAlone_b51 E EU K2 hK2 v0 v1 v2 Z I11 L12 hZ hx hc hb kv0 h
      · have h := h.2 b16 c17
        have kb16 := zr15 b16 c17
        refine j_rfS rfl ?_
        refine j_astore_n E 3 [(3, .ref b16), (0, .ref v0), (1, .int v1), (2, .int v2)] dX11_weighAlone_15 rfl (by decide) rfl ?_
        refine j_aload_n E dX11_weighAlone_16 0 rfl ?_
        refine j_ifnull E dX11_weighAlone_17 ?_
        refine j_aload_n E dX11_weighAlone_20 0 rfl ?_
        obtain ⟨b18, eb18, kb18⟩ := sh_o hZ kb16 (j := 8) (k := 6) rfl
        have h := h b18 eb18
        refine j_getrN E 5 8 rfl rfl (by decide) (by decide) (iw iT_5) rfl rfl (nw_5_8_X11_263) kb16 eb18 dX11_weighAlone_21 ?_
        refine j_aload_n E dX11_weighAlone_24 0 rfl ?_
        refine j_getiN E 5 3 rfl rfl (by decide) (by decide) (iw iT_5) rfl rfl (nw_5_3_X11_213) kb16 dX11_weighAlone_25 ?_
        refine j_aload_n E dX11_weighAlone_28 0 rfl ?_
        refine j_getiN E 5 4 rfl rfl (by decide) (by decide) (iw iT_5) rfl rfl (nw_5_4_X11_196) kb16 dX11_weighAlone_29 ?_
        refine j_iconst E (v := -1) dX11_weighAlone_32 (by decide) ?_
        refine j_callV E [.int (I11 b16 3), .int (I11 b16 4), .int (-1 : Int32)] [] (c_X6_lay (gL G) (gD G) (gY G) b18 (I11 b16 3) (I11 b16 4) (-1 : Int32) Z I11 L12 _ hZ kb18 h) (gwV W_532 W_533 W_534 W_33 W_531) rfl ⟨rfl, fy_X6_lay⟩ ⟨Nat.le_of_ble_eq_true rfl, Nat.le_of_ble_eq_true rfl⟩ (c := 6) rfl (by decide) kb18 rfl rfl (Nat.le_of_ble_eq_true rfl) (ju_kn hb) dX11_weighAlone_33 (fun v19 Z20 I21 L22 q23 => ?_)
        obtain ⟨rfl, rfl, h⟩ := q23
        show jJ G 4 36 [(3, .ref b16), (0, .ref v0), (1, .int v1), (2, .int v2)] [] Z I21 L22 (jcz Z - jcz Z0) (jsz Z - jsz Z0)
        refine j_aload_n E dX11_weighAlone_36 0 rfl ?_
        obtain ⟨b25, eb25, kb25⟩ := sh_o hZ kb16 (j := 8) (k := 6) rfl
        have h := h b25 eb25
        refine j_getrN E 5 8 rfl rfl (by decide) (by decide) (iw iT_5) rfl rfl (nw_5_8_X11_263) kb16 eb25 dX11_weighAlone_37 ?_
        refine ju_callV E [] [] (c_X6_survey (gL G) (gD G) (gY G) B b25 Z I21 L22 _ hZ hb kb25 h) (gwV W_583 W_584 W_585 W_33 W_582) rfl ⟨rfl, fy_X6_survey⟩ ⟨Nat.le_of_ble_eq_true rfl, Nat.le_of_ble_eq_true rfl⟩ (c := 6) rfl (by decide) kb25 rfl rfl (Nat.le_of_ble_eq_true rfl) (ju_f hc hb) dX11_weighAlone_40 (fun v26 Z27 I28 L29 q30 j31 => ?_)
        refine ju_next hc j31 ?_
        have hc := jle_trans hc j31
        obtain ⟨yZ27, hZ27, hbZ27, rfl, h⟩ := q30
        have hZ := hZ27
        have hx : jext Z0 Z27 := jext_trans hx yZ27
        have hb := hbZ27
        have k32 := (yZ27 _ _ kv0).1
        have k33 := (yZ27 _ _ kb16).1
        show jJ G 4 43 [(3, .ref b16), (0, .ref v0), (1, .int v1), (2, .int v2)] [] Z27 I28 L29 (jcz Z27 - jcz Z0) (jsz Z27 - jsz Z0)
        refine j_aload_n E dX11_weighAlone_43 0 rfl ?_
        obtain ⟨b34, eb34, kb34⟩ := sh_o hZ k33 (j := 8) (k := 6) rfl
        have h := h b34 eb34
        refine j_getrN E 5 8 rfl rfl (by decide) (by decide) (iw iT_5) rfl rfl (nw_5_8_X11_263) k33 eb34 dX11_weighAlone_44 ?_
        refine j_iload_n E dX11_weighAlone_47 2 rfl ?_
        refine ju_callV E [.int v1] [] (c_X6_raiseTo (gL G) (gD G) (gY G) B b34 v1 Z27 I28 L29 _ hZ hb kb34 h) (gwV W_586 W_325 W_326 W_33 W_323) rfl ⟨rfl, fy_X6_raiseTo⟩ ⟨Nat.le_of_ble_eq_true rfl, Nat.le_of_ble_eq_true rfl⟩ (c := 6) rfl (by decide) kb34 rfl rfl (Nat.le_of_ble_eq_true rfl) (ju_f hc hb) dX11_weighAlone_48 (fun v35 Z36 I37 L38 q39 j40 => ?_)
        refine ju_next hc j40 ?_
        have hc := jle_trans hc j40
        obtain ⟨yZ36, hZ36, hbZ36, rfl, h⟩ := q39
        have hZ := hZ36
        have hx : jext Z0 Z36 := jext_trans hx yZ36
        have hb := hbZ36
        have k41 := (yZ36 _ _ k32).1
        have k42 := (yZ36 _ _ k33).1
        show jJ G 4 51 [(3, .ref b16), (0, .ref v0), (1, .int v1), (2, .int v2)] [] Z36 I37 L38 (jcz Z36 - jcz Z0) (jsz Z36 - jsz Z0)
        refine j_sub [1, 2, 3] rfl ?_
        exact m_X11_weighAlone_b51 E EU K2 hK2 v0 v1 v2 Z36 I37 L38 hZ hx hc hb k41 h
set_option maxRecDepth 100000 in
def f_X11_weighAlone (B : Nat × Nat) (v0 : Nat) (v1 : Int32) (Z : jZ) (I : jI) (L : jL) (Q : jZ → jI → jL → Prop) : Prop := (∃ m2 : Nat, f_X11_weighAlone_L2 B  Q m2 v0 v1 (0 : Int32) Z I L)
set_option maxHeartbeats 4000000 in
set_option maxRecDepth 100000 in
theorem c_X11_weighAlone (l : Launch) (D : va_G) (cy : jC) (B : Nat × Nat) (v0 : Nat) (v1 : Int32) (Z : jZ) (I : jI) (L : jL) (Q : jZ → jI → jL → Prop) (hZ : SH Z) (hb : jin B Z) (kv0 : jk Z v0 11) (h : f_X11_weighAlone B v0 v1 Z I L Q) : jCtU l yX11_weighAlone w_X11_weighAlone B 6 163 D cy [.ref v0, .int v1] Z I L (urtV B Z Q) := by
  refine jCtU_of (cc := cX11_weighAlone) (maxL := 4) (ret := none) (by decide +kernel) rfl (Nat.le_of_ble_eq_true rfl) ?_
  intro G eD eY eL E EU
  subst eD; subst eY; subst eL
  have E : jE G cX11_weighAlone RX11 w_X11_weighAlone 4 none (jrm B 6 163 Z) jRF := E
  have hx : jext Z Z := jext_rfl
  have hc : jle Z Z := jle_rfl
  show jJ G 4 0 [(0, .ref v0), (1, .int v1)] [] Z I L (jcz Z - jcz Z) (jsz Z - jsz Z)
  refine j_iconst E (v := 0) dX11_weighAlone_0 (by decide) ?_
  refine j_istore_n E 2 [(2, .int (0 : Int32)), (0, .ref v0), (1, .int v1)] dX11_weighAlone_1 rfl (by decide) rfl ?_
  obtain ⟨n43, h⟩ := h
  refine j_sub [1, 2, 0] rfl ?_
  exact m_X11_weighAlone_L2 E EU  n43 v0 v1 (0 : Int32) Z I L hZ hx hc hb kv0 h
set_option maxRecDepth 100000 in
def f_X11_toll_b48 (B : Nat × Nat) (K22 : Nat → Int32 → Int32 → jZ → jI → jL → Prop) (Q : Int32 → jZ → jI → jL → Prop) (v0 : Nat) (v3 : Int32) (s0 : Int32) (Z : jZ) (I : jI) (L : jL) : Prop := (∀ x1 : Int32, x1 = v3 + 1 → K22 v0 s0 x1 Z I L)
set_option maxHeartbeats 4000000 in
set_option maxRecDepth 100000 in
theorem m_X11_toll_b48 {G : jG} {B : Nat × Nat} {Z0 : jZ} {Q : Int32 → jZ → jI → jL → Prop} (E : jE G cX11_toll RX11 w_X11_toll 4 (some .int) (jrm B 7 186 Z0) jRF) (EU : jEU G B Z0 (urtI B Z0 Q)) (K22 : Nat → Int32 → Int32 → jZ → jI → jL → Prop) (hK22 : ∀ (v0 : Nat) (v2 : Int32) (v3 : Int32) (Z : jZ) (I : jI) (L : jL), SH Z → jext Z0 Z → jle Z0 Z → jin B Z → jk Z v0 11 → K22 v0 v2 v3 Z I L → jJ G 4 22 [(0, .ref v0), (2, .int v2), (3, .int v3)] [] Z I L (jcz Z - jcz Z0) (jsz Z - jsz Z0)) (v0 : Nat) (v3 : Int32) (s0 : Int32) (Z : jZ) (I : jI) (L : jL) (hZ : SH Z) (hx : jext Z0 Z) (hc : jle Z0 Z) (hb : jin B Z) (kv0 : jk Z v0 11) (h : f_X11_toll_b48 B K22 Q v0 v3 s0 Z I L) : jJ G 4 48 [(0, .ref v0), (3, .int v3)] [.int s0] Z I L (jcz Z - jcz Z0) (jsz Z - jsz Z0) := by
  refine j_istore_n E 2 [(2, .int s0), (0, .ref v0), (3, .int v3)] dX11_toll_48 rfl (by decide) rfl ?_
  obtain ⟨x1, ex1⟩ : ∃ y : Int32, y = v3 + 1 := ⟨_, rfl⟩
  have h := h x1 ex1
  refine j_iinc E x1 [(3, .int x1), (2, .int s0), (0, .ref v0)] dX11_toll_49 2 rfl (by rw [ex1]; rfl) (by decide) rfl ?_
  refine j_goto E 22 dX11_toll_52 (by decide) ?_
  refine j_sub [2, 1, 0] rfl ?_
  exact hK22 v0 s0 x1 Z I L hZ hx hc hb kv0 h
set_option maxRecDepth 100000 in
def f_X11_toll_L22 (B : Nat × Nat)  (Q : Int32 → jZ → jI → jL → Prop) : Nat → Nat → Int32 → Int32 → jZ → jI → jL → Prop
  | 0 => fun _ _ _ _ _ _ => False
  | n + 1 => fun v0 v2 v3 Z I L => (((20 : Int32) < v3 → (∀ b3 : Nat, jr Z v0 14 = some b3 → (f_X11_tellOne v0 ((I b3 (0 : Int32).toNatClampNeg).toInt64) Z I L (fun I6 L7 => Q v2 Z I6 L7)))) ∧ (¬ ((20 : Int32) < v3) → (∀ b10 : Nat, jr Z v0 14 = some b10 → (vp_in v3 21 ∧ (∀ b12 : Nat, jr Z v0 14 = some b12 → ((¬ (I b10 v3.toNatClampNeg) = (I b12 (0 : Int32).toNatClampNeg) → f_X11_toll_b48 B (f_X11_toll_L22 B Q n) Q v0 v3 v2 Z I L) ∧ ((I b10 v3.toNatClampNeg) = (I b12 (0 : Int32).toNatClampNeg) → f_X11_toll_b48 B (f_X11_toll_L22 B Q n) Q v0 v3 v3 Z I L)))))))
set_option maxHeartbeats 4000000 in
set_option maxRecDepth 100000 in
theorem m_X11_toll_L22 {G : jG} {Z0 : jZ} {B : Nat × Nat} {Q : Int32 → jZ → jI → jL → Prop} (E : jE G cX11_toll RX11 w_X11_toll 4 (some .int) (jrm B 7 186 Z0) jRF) (EU : jEU G B Z0 (urtI B Z0 Q))  : ∀ (n : Nat) (v0 : Nat) (v2 : Int32) (v3 : Int32) (Z : jZ) (I : jI) (L : jL), SH Z → jext Z0 Z → jle Z0 Z → jin B Z → jk Z v0 11 → f_X11_toll_L22 B  Q n v0 v2 v3 Z I L → jJ G 4 22 [(0, .ref v0), (2, .int v2), (3, .int v3)] [] Z I L (jcz Z - jcz Z0) (jsz Z - jsz Z0) := by
  intro n
  induction n with
  | zero => intro v0 v2 v3 Z I L _ _ _ _ _ h; exact h.elim
  | succ n ih =>
    intro v0 v2 v3 Z I L hZ hx hc hb kv0 h
    have h : (((20 : Int32) < v3 → (∀ b3 : Nat, jr Z v0 14 = some b3 → (f_X11_tellOne v0 ((I b3 (0 : Int32).toNatClampNeg).toInt64) Z I L (fun I6 L7 => Q v2 Z I6 L7)))) ∧ (¬ ((20 : Int32) < v3) → (∀ b10 : Nat, jr Z v0 14 = some b10 → (vp_in v3 21 ∧ (∀ b12 : Nat, jr Z v0 14 = some b12 → ((¬ (I b10 v3.toNatClampNeg) = (I b12 (0 : Int32).toNatClampNeg) → f_X11_toll_b48 B (f_X11_toll_L22 B Q n) Q v0 v3 v2 Z I L) ∧ ((I b10 v3.toNatClampNeg) = (I b12 (0 : Int32).toNatClampNeg) → f_X11_toll_b48 B (f_X11_toll_L22 B Q n) Q v0 v3 v3 Z I L))))))) := h
    obtain ⟨K22, eK22⟩ : ∃ K : Nat → Int32 → Int32 → jZ → jI → jL → Prop, K = f_X11_toll_L22 B  Q n := ⟨_, rfl⟩
    have hK22 := ih
    clear eK22 K22
    generalize f_X11_toll_L22 B  Q n = K22 at hK22 h
    refine j_iload_n E dX11_toll_22 2 rfl ?_
    refine j_bipush E (v := 20) dX11_toll_23 (by decide) ?_
    refine j_icmp_gt E 55 dX11_toll_25 (by decide) (fun c2 => ?_) (fun c2 => ?_)
    · have h := h.1 c2
      refine j_aload_n E dX11_toll_55 0 rfl ?_
      refine j_aload_n E dX11_toll_56 0 rfl ?_
      obtain ⟨b3, eb3, kb3, lb3⟩ := sh_f hZ kv0 (j := 14) (k := 14) (m := 21) rfl
      have h := h b3 eb3
      refine j_getr E 11 14 rfl rfl (by decide) (by decide) (iw iT_11) rfl rfl (tw W_573) kv0 eb3 dX11_toll_57 ?_
      refine j_iconst E (v := 0) dX11_toll_60 (by decide) ?_
      refine j_iald E kb3 (by rw [lb3]; exact vp_in_lit (by decide)) dX11_toll_61 ?_
      refine j_i2l E dX11_toll_62 ?_
      refine j_callV E [.long ((I b3 (0 : Int32).toNatClampNeg).toInt64)] [] (c_X11_tellOne (gL G) (gD G) (gY G) v0 ((I b3 (0 : Int32).toNatClampNeg).toInt64) Z I L _ hZ kv0 h) (gwV W_492 W_493 W_494 W_40 W_491) rfl ⟨rfl, fy_X11_tellOne⟩ ⟨Nat.le_of_ble_eq_true rfl, Nat.le_of_ble_eq_true rfl⟩ (c := 11) rfl (by decide) kv0 rfl rfl (Nat.le_of_ble_eq_true rfl) (ju_kn hb) dX11_toll_63 (fun v4 Z5 I6 L7 q8 => ?_)
      obtain ⟨rfl, rfl, h⟩ := q8
      show jJ G 4 66 [(0, .ref v0), (2, .int v2), (3, .int v3)] [] Z I6 L7 (jcz Z - jcz Z0) (jsz Z - jsz Z0)
      refine j_iload_n E dX11_toll_66 1 rfl ?_
      exact ju_ireturn E EU hc hb ⟨hx, hZ, hb, _, rfl, h⟩ dX11_toll_67
    · have h := h.2 c2
      refine j_aload_n E dX11_toll_28 0 rfl ?_
      obtain ⟨b10, eb10, kb10, lb10⟩ := sh_f hZ kv0 (j := 14) (k := 14) (m := 21) rfl
      have h := h b10 eb10
      refine j_getr E 11 14 rfl rfl (by decide) (by decide) (iw iT_11) rfl rfl (tw W_573) kv0 eb10 dX11_toll_29 ?_
      refine j_iload_n E dX11_toll_32 2 rfl ?_
      obtain ⟨o11, h⟩ := h
      refine j_iald E kb10 (by rw [lb10]; exact o11) dX11_toll_33 ?_
      refine j_aload_n E dX11_toll_34 0 rfl ?_
      obtain ⟨b12, eb12, kb12, lb12⟩ := sh_f hZ kv0 (j := 14) (k := 14) (m := 21) rfl
      have h := h b12 eb12
      refine j_getr E 11 14 rfl rfl (by decide) (by decide) (iw iT_11) rfl rfl (tw W_573) kv0 eb12 dX11_toll_35 ?_
      refine j_iconst E (v := 0) dX11_toll_38 (by decide) ?_
      refine j_iald E kb12 (by rw [lb12]; exact vp_in_lit (by decide)) dX11_toll_39 ?_
      refine j_icmp_ne E 47 dX11_toll_40 (by decide) (fun c13 => ?_) (fun c13 => ?_)
      · have h := h.1 c13
        refine j_iload_n E dX11_toll_47 1 rfl ?_
        refine j_sub [0, 2] rfl ?_
        exact m_X11_toll_b48 E EU K22 hK22 v0 v3 v2 Z I L hZ hx hc hb kv0 h
      · have h := h.2 c13
        refine j_iload_n E dX11_toll_43 2 rfl ?_
        refine j_goto E 48 dX11_toll_44 (by decide) ?_
        refine j_sub [0, 2] rfl ?_
        exact m_X11_toll_b48 E EU K22 hK22 v0 v3 v3 Z I L hZ hx hc hb kv0 h
set_option maxRecDepth 100000 in
def f_X11_toll (B : Nat × Nat) (v0 : Nat) (v1 : Int32) (Z : jZ) (I : jI) (L : jL) (Q : Int32 → jZ → jI → jL → Prop) : Prop := (∀ b14 : Nat, jr Z v0 2 = some b14 → (f_X8_has b14 v1 Z I L (fun r21 I17 L18 => ((¬ r21 = 0 → (f_X11_weighAlone B v0 v1 Z I17 L18 (fun Z24 I25 L26 => (∃ m22 : Nat, f_X11_toll_L22 B  Q m22 v0 (0 : Int32) (1 : Int32) Z24 I25 L26)))) ∧ (r21 = 0 → Q (-1 : Int32) Z I17 L18)))))
set_option maxHeartbeats 4000000 in
set_option maxRecDepth 100000 in
theorem c_X11_toll (l : Launch) (D : va_G) (cy : jC) (B : Nat × Nat) (v0 : Nat) (v1 : Int32) (Z : jZ) (I : jI) (L : jL) (Q : Int32 → jZ → jI → jL → Prop) (hZ : SH Z) (hb : jin B Z) (kv0 : jk Z v0 11) (h : f_X11_toll B v0 v1 Z I L Q) : jCtU l yX11_toll w_X11_toll B 7 186 D cy [.ref v0, .int v1] Z I L (urtI B Z Q) := by
  refine jCtU_of (cc := cX11_toll) (maxL := 4) (ret := (some .int)) (by decide +kernel) rfl (Nat.le_of_ble_eq_true rfl) ?_
  intro G eD eY eL E EU
  subst eD; subst eY; subst eL
  have E : jE G cX11_toll RX11 w_X11_toll 4 (some .int) (jrm B 7 186 Z) jRF := E
  have hx : jext Z Z := jext_rfl
  have hc : jle Z Z := jle_rfl
  show jJ G 4 0 [(0, .ref v0), (1, .int v1)] [] Z I L (jcz Z - jcz Z) (jsz Z - jsz Z)
  refine j_aload_n E dX11_toll_0 0 rfl ?_
  obtain ⟨b14, eb14, kb14⟩ := sh_o hZ kv0 (j := 2) (k := 8) rfl
  have h := h b14 eb14
  refine j_getr E 11 2 rfl rfl (by decide) (by decide) (iw iT_11) rfl rfl (tw W_454) kv0 eb14 dX11_toll_1 ?_
  refine j_iload_n E dX11_toll_4 1 rfl ?_
  refine j_callV E [.int v1] [] (c_X8_has (gL G) (gD G) (gY G) b14 v1 Z I L _ hZ kb14 h) (gwV W_463 W_256 W_257 W_254 W_253) rfl ⟨rfl, fy_X8_has⟩ ⟨Nat.le_of_ble_eq_true rfl, Nat.le_of_ble_eq_true rfl⟩ (c := 8) rfl (by decide) kb14 rfl rfl (Nat.le_of_ble_eq_true rfl) (ju_kn hb) dX11_toll_5 (fun v15 Z16 I17 L18 q19 => ?_)
  obtain ⟨rfl, r21, rfl, zr21, h⟩ := q19
  show jJ G 4 8 [(0, .ref v0), (1, .int v1)] [.int r21] Z I17 L18 (jcz Z - jcz Z) (jsz Z - jsz Z)
  refine j_if_ne E 13 dX11_toll_8 (by decide) (fun c22 => ?_) (fun c22 => ?_)
  · have h := h.1 c22
    refine j_aload_n E dX11_toll_13 0 rfl ?_
    refine j_iload_n E dX11_toll_14 1 rfl ?_
    refine ju_callV E [.int v1] [] (c_X11_weighAlone (gL G) (gD G) (gY G) B v0 v1 Z I17 L18 _ hZ hb kv0 h) (gwV W_588 W_589 W_590 W_40 W_587) rfl ⟨rfl, fy_X11_weighAlone⟩ ⟨Nat.le_of_ble_eq_true rfl, Nat.le_of_ble_eq_true rfl⟩ (c := 11) rfl (by decide) kv0 rfl rfl (Nat.le_of_ble_eq_true rfl) (ju_f hc hb) dX11_toll_15 (fun v23 Z24 I25 L26 q27 j28 => ?_)
    refine ju_next hc j28 ?_
    have hc := jle_trans hc j28
    obtain ⟨yZ24, hZ24, hbZ24, rfl, h⟩ := q27
    have hZ := hZ24
    have hx : jext Z Z24 := jext_trans hx yZ24
    have hb := hbZ24
    have k29 := (yZ24 _ _ kv0).1
    show jJ G 4 18 [(0, .ref v0), (1, .int v1)] [] Z24 I25 L26 (jcz Z24 - jcz Z) (jsz Z24 - jsz Z)
    refine j_iconst E (v := 0) dX11_toll_18 (by decide) ?_
    refine j_istore_n E 2 [(2, .int (0 : Int32)), (0, .ref v0), (1, .int v1)] dX11_toll_19 rfl (by decide) rfl ?_
    refine j_iconst E (v := 1) dX11_toll_20 (by decide) ?_
    refine j_istore_n E 3 [(3, .int (1 : Int32)), (2, .int (0 : Int32)), (0, .ref v0), (1, .int v1)] dX11_toll_21 rfl (by decide) rfl ?_
    obtain ⟨n30, h⟩ := h
    refine j_sub [2, 1, 0] rfl ?_
    exact m_X11_toll_L22 E EU  n30 v0 (0 : Int32) (1 : Int32) Z24 I25 L26 hZ hx hc hb k29 h
  · have h := h.2 c22
    refine j_iconst E (v := -1) dX11_toll_11 (by decide) ?_
    exact ju_ireturn E EU hc hb ⟨hx, hZ, hb, _, rfl, h⟩ dX11_toll_12
set_option maxRecDepth 100000 in
def f_X11_peace_b175 (B : Nat × Nat) (K19 : Nat → Int32 → Int32 → Int32 → Int32 → jZ → jI → jL → Prop) (K32 : Nat → Int32 → Int32 → Int32 → Int32 → Int32 → jZ → jI → jL → Prop) (Q : Int32 → jZ → jI → jL → Prop) (v0 : Nat) (v1 : Int32) (v2 : Int32) (v3 : Int32) (v4 : Int32) (v5 : Int32) (Z : jZ) (I : jI) (L : jL) : Prop := (∀ x1 : Int32, x1 = v5 + 1 → K32 v0 v1 v2 v3 v4 x1 Z I L)
set_option maxHeartbeats 4000000 in
set_option maxRecDepth 100000 in
theorem m_X11_peace_b175 {G : jG} {B : Nat × Nat} {Z0 : jZ} {Q : Int32 → jZ → jI → jL → Prop} (E : jE G cX11_peace RX11 w_X11_peace 6 (some .int) (jrm B 8 209 Z0) jRF) (EU : jEU G B Z0 (urtI B Z0 Q)) (K19 : Nat → Int32 → Int32 → Int32 → Int32 → jZ → jI → jL → Prop) (hK19 : ∀ (v0 : Nat) (v1 : Int32) (v2 : Int32) (v3 : Int32) (v4 : Int32) (Z : jZ) (I : jI) (L : jL), SH Z → jext Z0 Z → jle Z0 Z → jin B Z → jk Z v0 11 → K19 v0 v1 v2 v3 v4 Z I L → jJ G 6 19 [(0, .ref v0), (1, .int v1), (2, .int v2), (3, .int v3), (4, .int v4)] [] Z I L (jcz Z - jcz Z0) (jsz Z - jsz Z0)) (K32 : Nat → Int32 → Int32 → Int32 → Int32 → Int32 → jZ → jI → jL → Prop) (hK32 : ∀ (v0 : Nat) (v1 : Int32) (v2 : Int32) (v3 : Int32) (v4 : Int32) (v5 : Int32) (Z : jZ) (I : jI) (L : jL), SH Z → jext Z0 Z → jle Z0 Z → jin B Z → jk Z v0 11 → K32 v0 v1 v2 v3 v4 v5 Z I L → jJ G 6 32 [(0, .ref v0), (1, .int v1), (2, .int v2), (3, .int v3), (4, .int v4), (5, .int v5)] [] Z I L (jcz Z - jcz Z0) (jsz Z - jsz Z0)) (v0 : Nat) (v1 : Int32) (v2 : Int32) (v3 : Int32) (v4 : Int32) (v5 : Int32) (Z : jZ) (I : jI) (L : jL) (hZ : SH Z) (hx : jext Z0 Z) (hc : jle Z0 Z) (hb : jin B Z) (kv0 : jk Z v0 11) (h : f_X11_peace_b175 B K19 K32 Q v0 v1 v2 v3 v4 v5 Z I L) : jJ G 6 175 [(0, .ref v0), (1, .int v1), (2, .int v2), (3, .int v3), (4, .int v4), (5, .int v5)] [] Z I L (jcz Z - jcz Z0) (jsz Z - jsz Z0) := by
  obtain ⟨x1, ex1⟩ : ∃ y : Int32, y = v5 + 1 := ⟨_, rfl⟩
  have h := h x1 ex1
  refine j_iinc E x1 [(5, .int x1), (0, .ref v0), (1, .int v1), (2, .int v2), (3, .int v3), (4, .int v4)] dX11_peace_175 5 rfl (by rw [ex1]; rfl) (by decide) rfl ?_
  refine j_goto E 32 dX11_peace_178 (by decide) ?_
  refine j_sub [1, 2, 3, 4, 5, 0] rfl ?_
  exact hK32 v0 v1 v2 v3 v4 x1 Z I L hZ hx hc hb kv0 h
set_option maxRecDepth 100000 in
def f_X11_peace_b152 (B : Nat × Nat) (K19 : Nat → Int32 → Int32 → Int32 → Int32 → jZ → jI → jL → Prop) (K32 : Nat → Int32 → Int32 → Int32 → Int32 → Int32 → jZ → jI → jL → Prop) (Q : Int32 → jZ → jI → jL → Prop) (v0 : Nat) (v4 : Int32) (v5 : Int32) (Z : jZ) (I : jI) (L : jL) : Prop := (∀ x2 : Int32, x2 = ((v4 * (10 : Int32)) + v5) → (∀ b3 : Nat, jr Z v0 12 = some b3 → (∀ x4 : Int32, x4 = (I b3 (1 : Int32).toNatClampNeg) → (∀ b5 : Nat, jr Z v0 12 = some b5 → (∀ x6 : Int32, x6 = (I b5 (0 : Int32).toNatClampNeg) → f_X11_peace_b175 B K19 K32 Q v0 x2 x4 x6 v4 v5 Z I L)))))
set_option maxHeartbeats 4000000 in
set_option maxRecDepth 100000 in
theorem m_X11_peace_b152 {G : jG} {B : Nat × Nat} {Z0 : jZ} {Q : Int32 → jZ → jI → jL → Prop} (E : jE G cX11_peace RX11 w_X11_peace 6 (some .int) (jrm B 8 209 Z0) jRF) (EU : jEU G B Z0 (urtI B Z0 Q)) (K19 : Nat → Int32 → Int32 → Int32 → Int32 → jZ → jI → jL → Prop) (hK19 : ∀ (v0 : Nat) (v1 : Int32) (v2 : Int32) (v3 : Int32) (v4 : Int32) (Z : jZ) (I : jI) (L : jL), SH Z → jext Z0 Z → jle Z0 Z → jin B Z → jk Z v0 11 → K19 v0 v1 v2 v3 v4 Z I L → jJ G 6 19 [(0, .ref v0), (1, .int v1), (2, .int v2), (3, .int v3), (4, .int v4)] [] Z I L (jcz Z - jcz Z0) (jsz Z - jsz Z0)) (K32 : Nat → Int32 → Int32 → Int32 → Int32 → Int32 → jZ → jI → jL → Prop) (hK32 : ∀ (v0 : Nat) (v1 : Int32) (v2 : Int32) (v3 : Int32) (v4 : Int32) (v5 : Int32) (Z : jZ) (I : jI) (L : jL), SH Z → jext Z0 Z → jle Z0 Z → jin B Z → jk Z v0 11 → K32 v0 v1 v2 v3 v4 v5 Z I L → jJ G 6 32 [(0, .ref v0), (1, .int v1), (2, .int v2), (3, .int v3), (4, .int v4), (5, .int v5)] [] Z I L (jcz Z - jcz Z0) (jsz Z - jsz Z0)) (v0 : Nat) (v4 : Int32) (v5 : Int32) (Z : jZ) (I : jI) (L : jL) (hZ : SH Z) (hx : jext Z0 Z) (hc : jle Z0 Z) (hb : jin B Z) (kv0 : jk Z v0 11) (h : f_X11_peace_b152 B K19 K32 Q v0 v4 v5 Z I L) : jJ G 6 152 [(0, .ref v0), (4, .int v4), (5, .int v5)] [] Z I L (jcz Z - jcz Z0) (jsz Z - jsz Z0) := by
  refine j_iload E dX11_peace_152 1 rfl ?_
  refine j_bipush E (v := 10) dX11_peace_154 (by decide) ?_
  refine j_imul E dX11_peace_156 ?_
  refine j_iload E dX11_peace_157 2 rfl ?_
  refine j_iadd E dX11_peace_159 ?_
  refine j_topi (fun x2 ex2 => ?_)
  have h := h x2 ex2
  refine j_istore_n E 1 [(1, .int x2), (0, .ref v0), (4, .int v4), (5, .int v5)] dX11_peace_160 rfl (by decide) rfl ?_
  refine j_aload_n E dX11_peace_161 1 rfl ?_
  obtain ⟨b3, eb3, kb3, lb3⟩ := sh_f hZ kv0 (j := 12) (k := 14) (m := 3) rfl
  have h := h b3 eb3
  refine j_getr E 11 12 rfl rfl (by decide) (by decide) (iw iT_11) rfl rfl (tw W_567) kv0 eb3 dX11_peace_162 ?_
  refine j_iconst E (v := 1) dX11_peace_165 (by decide) ?_
  refine j_iald E kb3 (by rw [lb3]; exact vp_in_lit (by decide)) dX11_peace_166 ?_
  refine j_topi (fun x4 ex4 => ?_)
  have h := h x4 ex4
  refine j_istore_n E 2 [(2, .int x4), (1, .int x2), (0, .ref v0), (4, .int v4), (5, .int v5)] dX11_peace_167 rfl (by decide) rfl ?_
  refine j_aload_n E dX11_peace_168 2 rfl ?_
  obtain ⟨b5, eb5, kb5, lb5⟩ := sh_f hZ kv0 (j := 12) (k := 14) (m := 3) rfl
  have h := h b5 eb5
  refine j_getr E 11 12 rfl rfl (by decide) (by decide) (iw iT_11) rfl rfl (tw W_567) kv0 eb5 dX11_peace_169 ?_
  refine j_iconst E (v := 0) dX11_peace_172 (by decide) ?_
  refine j_iald E kb5 (by rw [lb5]; exact vp_in_lit (by decide)) dX11_peace_173 ?_
  refine j_topi (fun x6 ex6 => ?_)
  have h := h x6 ex6
  refine j_istore_n E 3 [(3, .int x6), (2, .int x4), (1, .int x2), (0, .ref v0), (4, .int v4), (5, .int v5)] dX11_peace_174 rfl (by decide) rfl ?_
  refine j_sub [3, 2, 1, 0, 4, 5] rfl ?_
  exact m_X11_peace_b175 E EU K19 hK19 K32 hK32 v0 x2 x4 x6 v4 v5 Z I L hZ hx hc hb kv0 h
set_option maxRecDepth 100000 in
def f_X11_peace_b121 (B : Nat × Nat) (K19 : Nat → Int32 → Int32 → Int32 → Int32 → jZ → jI → jL → Prop) (K32 : Nat → Int32 → Int32 → Int32 → Int32 → Int32 → jZ → jI → jL → Prop) (Q : Int32 → jZ → jI → jL → Prop) (v0 : Nat) (v1 : Int32) (v2 : Int32) (v3 : Int32) (v4 : Int32) (v5 : Int32) (Z : jZ) (I : jI) (L : jL) : Prop := (∀ b7 : Nat, jr Z v0 12 = some b7 → (∀ b8 : Nat, jr Z v0 11 = some b8 → (((I b7 (0 : Int32).toNatClampNeg) < (I b8 (0 : Int32).toNatClampNeg) → f_X11_peace_b175 B K19 K32 Q v0 v1 v2 v3 v4 v5 Z I L) ∧ (¬ ((I b7 (0 : Int32).toNatClampNeg) < (I b8 (0 : Int32).toNatClampNeg)) → ((v1 = (-2 : Int32) → f_X11_peace_b152 B K19 K32 Q v0 v4 v5 Z I L) ∧ (¬ (v1 = (-2 : Int32)) → (∀ b11 : Nat, jr Z v0 12 = some b11 → ((v2 ≤ (I b11 (1 : Int32).toNatClampNeg) → f_X11_peace_b175 B K19 K32 Q v0 v1 v2 v3 v4 v5 Z I L) ∧ (¬ (v2 ≤ (I b11 (1 : Int32).toNatClampNeg)) → f_X11_peace_b152 B K19 K32 Q v0 v4 v5 Z I L)))))))))
set_option maxHeartbeats 4000000 in
set_option maxRecDepth 100000 in
theorem m_X11_peace_b121 {G : jG} {B : Nat × Nat} {Z0 : jZ} {Q : Int32 → jZ → jI → jL → Prop} (E : jE G cX11_peace RX11 w_X11_peace 6 (some .int) (jrm B 8 209 Z0) jRF) (EU : jEU G B Z0 (urtI B Z0 Q)) (K19 : Nat → Int32 → Int32 → Int32 → Int32 → jZ → jI → jL → Prop) (hK19 : ∀ (v0 : Nat) (v1 : Int32) (v2 : Int32) (v3 : Int32) (v4 : Int32) (Z : jZ) (I : jI) (L : jL), SH Z → jext Z0 Z → jle Z0 Z → jin B Z → jk Z v0 11 → K19 v0 v1 v2 v3 v4 Z I L → jJ G 6 19 [(0, .ref v0), (1, .int v1), (2, .int v2), (3, .int v3), (4, .int v4)] [] Z I L (jcz Z - jcz Z0) (jsz Z - jsz Z0)) (K32 : Nat → Int32 → Int32 → Int32 → Int32 → Int32 → jZ → jI → jL → Prop) (hK32 : ∀ (v0 : Nat) (v1 : Int32) (v2 : Int32) (v3 : Int32) (v4 : Int32) (v5 : Int32) (Z : jZ) (I : jI) (L : jL), SH Z → jext Z0 Z → jle Z0 Z → jin B Z → jk Z v0 11 → K32 v0 v1 v2 v3 v4 v5 Z I L → jJ G 6 32 [(0, .ref v0), (1, .int v1), (2, .int v2), (3, .int v3), (4, .int v4), (5, .int v5)] [] Z I L (jcz Z - jcz Z0) (jsz Z - jsz Z0)) (v0 : Nat) (v1 : Int32) (v2 : Int32) (v3 : Int32) (v4 : Int32) (v5 : Int32) (Z : jZ) (I : jI) (L : jL) (hZ : SH Z) (hx : jext Z0 Z) (hc : jle Z0 Z) (hb : jin B Z) (kv0 : jk Z v0 11) (h : f_X11_peace_b121 B K19 K32 Q v0 v1 v2 v3 v4 v5 Z I L) : jJ G 6 121 [(0, .ref v0), (1, .int v1), (2, .int v2), (3, .int v3), (4, .int v4), (5, .int v5)] [] Z I L (jcz Z - jcz Z0) (jsz Z - jsz Z0) := by
  refine j_aload_n E dX11_peace_121 0 rfl ?_
  obtain ⟨b7, eb7, kb7, lb7⟩ := sh_f hZ kv0 (j := 12) (k := 14) (m := 3) rfl
  have h := h b7 eb7
  refine j_getr E 11 12 rfl rfl (by decide) (by decide) (iw iT_11) rfl rfl (tw W_567) kv0 eb7 dX11_peace_122 ?_
  refine j_iconst E (v := 0) dX11_peace_125 (by decide) ?_
  refine j_iald E kb7 (by rw [lb7]; exact vp_in_lit (by decide)) dX11_peace_126 ?_
  refine j_aload_n E dX11_peace_127 0 rfl ?_
  obtain ⟨b8, eb8, kb8, lb8⟩ := sh_f hZ kv0 (j := 11) (k := 14) (m := 3) rfl
  have h := h b8 eb8
  refine j_getr E 11 11 rfl rfl (by decide) (by decide) (iw iT_11) rfl rfl (tw W_562) kv0 eb8 dX11_peace_128 ?_
  refine j_iconst E (v := 0) dX11_peace_131 (by decide) ?_
  refine j_iald E kb8 (by rw [lb8]; exact vp_in_lit (by decide)) dX11_peace_132 ?_
  refine j_icmp_lt E 175 dX11_peace_133 (by decide) (fun c9 => ?_) (fun c9 => ?_)
  · have h := h.1 c9
    refine j_sub [0, 1, 2, 3, 4, 5] rfl ?_
    exact m_X11_peace_b175 E EU K19 hK19 K32 hK32 v0 v1 v2 v3 v4 v5 Z I L hZ hx hc hb kv0 h
  · have h := h.2 c9
    refine j_iload_n E dX11_peace_136 1 rfl ?_
    refine j_bipush E (v := -2) dX11_peace_137 (by decide) ?_
    refine j_icmp_eq E 152 dX11_peace_139 (by decide) (fun c10 => ?_) (fun c10 => ?_)
    · have h := h.1 c10
      refine j_sub [0, 4, 5] rfl ?_
      exact m_X11_peace_b152 E EU K19 hK19 K32 hK32 v0 v4 v5 Z I L hZ hx hc hb kv0 h
    · have h := h.2 c10
      refine j_aload_n E dX11_peace_142 0 rfl ?_
      obtain ⟨b11, eb11, kb11, lb11⟩ := sh_f hZ kv0 (j := 12) (k := 14) (m := 3) rfl
      have h := h b11 eb11
      refine j_getr E 11 12 rfl rfl (by decide) (by decide) (iw iT_11) rfl rfl (tw W_567) kv0 eb11 dX11_peace_143 ?_
      refine j_iconst E (v := 1) dX11_peace_146 (by decide) ?_
      refine j_iald E kb11 (by rw [lb11]; exact vp_in_lit (by decide)) dX11_peace_147 ?_
      refine j_iload_n E dX11_peace_148 2 rfl ?_
      refine j_icmp_ge E 175 dX11_peace_149 (by decide) (fun c12 => ?_) (fun c12 => ?_)
      · have h := h.1 c12
        refine j_sub [0, 1, 2, 3, 4, 5] rfl ?_
        exact m_X11_peace_b175 E EU K19 hK19 K32 hK32 v0 v1 v2 v3 v4 v5 Z I L hZ hx hc hb kv0 h
      · have h := h.2 c12
        refine j_sub [0, 4, 5] rfl ?_
        exact m_X11_peace_b152 E EU K19 hK19 K32 hK32 v0 v4 v5 Z I L hZ hx hc hb kv0 h
set_option maxRecDepth 100000 in
def f_X11_peace_L32 (B : Nat × Nat) (K19 : Nat → Int32 → Int32 → Int32 → Int32 → jZ → jI → jL → Prop) (Q : Int32 → jZ → jI → jL → Prop) : Nat → Nat → Int32 → Int32 → Int32 → Int32 → Int32 → jZ → jI → jL → Prop
  | 0 => fun _ _ _ _ _ _ _ _ _ => False
  | n + 1 => fun v0 v1 v2 v3 v4 v5 Z I L => (((8 : Int32) ≤ v5 → (∀ x14 : Int32, x14 = v4 + 1 → K19 v0 v1 v2 v3 x14 Z I L)) ∧ (¬ ((8 : Int32) ≤ v5) → (∀ b15 : Nat, jr Z v0 2 = some b15 → (f_X8_inFeud b15 v4 v5 Z I L (fun r22 I18 L19 => ((¬ r22 = 0 → (∀ b24 : Nat, jr Z v0 11 = some b24 → (∀ b25 : Nat, jr Z v0 12 = some b25 → (∀ b26 : Nat, jr Z v0 11 = some b26 → ((¬ (0 : Int32) < 0 ∧ ¬ (0 : Int32) < 0 ∧ ¬ (3 : Int32) < 0 ∧ (0 : Int32).toNatClampNeg + (3 : Int32).toNatClampNeg ≤ 3 ∧ (0 : Int32).toNatClampNeg + (3 : Int32).toNatClampNeg ≤ 3) ∧ (∀ I28 : jI, I28 = va_up I18 b25 (va_cpy (I18 b24) (I18 b25) (0 : Int32).toNatClampNeg (0 : Int32).toNatClampNeg (3 : Int32).toNatClampNeg) → (∀ b29 : Nat, jr Z v0 2 = some b29 → (f_X8_mindsFeud b29 v4 v5 Z I28 L19 (fun r36 I32 L33 => ((r36 = 0 → f_X11_peace_b121 B K19 (f_X11_peace_L32 B K19 Q n) Q v0 v1 v2 v3 v4 v5 Z I32 L33) ∧ (¬ (r36 = 0) → (∀ b38 : Nat, jr Z v0 2 = some b38 → (f_X8_quarrel b38 v4 v5 (0 : Int32) Z I32 L33 (fun I41 L42 => (∀ b45 : Nat, jr Z v0 12 = some b45 → (f_X11_sumUp B v0 (-1 : Int32) b45 Z I41 L42 (fun Z47 I48 L49 => (∀ b53 : Nat, jr Z47 v0 2 = some b53 → (f_X8_quarrel b53 v4 v5 (1 : Int32) Z47 I48 L49 (fun I56 L57 => f_X11_peace_b121 B K19 (f_X11_peace_L32 B K19 Q n) Q v0 v1 v2 v3 v4 v5 Z47 I56 L57)))))))))))))))))))) ∧ (r22 = 0 → f_X11_peace_b175 B K19 (f_X11_peace_L32 B K19 Q n) Q v0 v1 v2 v3 v4 v5 Z I18 L19)))))))
set_option maxHeartbeats 4000000 in
set_option maxRecDepth 100000 in
theorem m_X11_peace_L32 {G : jG} {Z0 : jZ} {B : Nat × Nat} {Q : Int32 → jZ → jI → jL → Prop} (E : jE G cX11_peace RX11 w_X11_peace 6 (some .int) (jrm B 8 209 Z0) jRF) (EU : jEU G B Z0 (urtI B Z0 Q)) (K19 : Nat → Int32 → Int32 → Int32 → Int32 → jZ → jI → jL → Prop) (hK19 : ∀ (v0 : Nat) (v1 : Int32) (v2 : Int32) (v3 : Int32) (v4 : Int32) (Z : jZ) (I : jI) (L : jL), SH Z → jext Z0 Z → jle Z0 Z → jin B Z → jk Z v0 11 → K19 v0 v1 v2 v3 v4 Z I L → jJ G 6 19 [(0, .ref v0), (1, .int v1), (2, .int v2), (3, .int v3), (4, .int v4)] [] Z I L (jcz Z - jcz Z0) (jsz Z - jsz Z0)) : ∀ (n : Nat) (v0 : Nat) (v1 : Int32) (v2 : Int32) (v3 : Int32) (v4 : Int32) (v5 : Int32) (Z : jZ) (I : jI) (L : jL), SH Z → jext Z0 Z → jle Z0 Z → jin B Z → jk Z v0 11 → f_X11_peace_L32 B K19 Q n v0 v1 v2 v3 v4 v5 Z I L → jJ G 6 32 [(0, .ref v0), (1, .int v1), (2, .int v2), (3, .int v3), (4, .int v4), (5, .int v5)] [] Z I L (jcz Z - jcz Z0) (jsz Z - jsz Z0) := by
  intro n
  induction n with
  | zero => intro v0 v1 v2 v3 v4 v5 Z I L _ _ _ _ _ h; exact h.elim
  | succ n ih =>
    intro v0 v1 v2 v3 v4 v5 Z I L hZ hx hc hb kv0 h
    have h : (((8 : Int32) ≤ v5 → (∀ x14 : Int32, x14 = v4 + 1 → K19 v0 v1 v2 v3 x14 Z I L)) ∧ (¬ ((8 : Int32) ≤ v5) → (∀ b15 : Nat, jr Z v0 2 = some b15 → (f_X8_inFeud b15 v4 v5 Z I L (fun r22 I18 L19 => ((¬ r22 = 0 → (∀ b24 : Nat, jr Z v0 11 = some b24 → (∀ b25 : Nat, jr Z v0 12 = some b25 → (∀ b26 : Nat, jr Z v0 11 = some b26 → ((¬ (0 : Int32) < 0 ∧ ¬ (0 : Int32) < 0 ∧ ¬ (3 : Int32) < 0 ∧ (0 : Int32).toNatClampNeg + (3 : Int32).toNatClampNeg ≤ 3 ∧ (0 : Int32).toNatClampNeg + (3 : Int32).toNatClampNeg ≤ 3) ∧ (∀ I28 : jI, I28 = va_up I18 b25 (va_cpy (I18 b24) (I18 b25) (0 : Int32).toNatClampNeg (0 : Int32).toNatClampNeg (3 : Int32).toNatClampNeg) → (∀ b29 : Nat, jr Z v0 2 = some b29 → (f_X8_mindsFeud b29 v4 v5 Z I28 L19 (fun r36 I32 L33 => ((r36 = 0 → f_X11_peace_b121 B K19 (f_X11_peace_L32 B K19 Q n) Q v0 v1 v2 v3 v4 v5 Z I32 L33) ∧ (¬ (r36 = 0) → (∀ b38 : Nat, jr Z v0 2 = some b38 → (f_X8_quarrel b38 v4 v5 (0 : Int32) Z I32 L33 (fun I41 L42 => (∀ b45 : Nat, jr Z v0 12 = some b45 → (f_X11_sumUp B v0 (-1 : Int32) b45 Z I41 L42 (fun Z47 I48 L49 => (∀ b53 : Nat, jr Z47 v0 2 = some b53 → (f_X8_quarrel b53 v4 v5 (1 : Int32) Z47 I48 L49 (fun I56 L57 => f_X11_peace_b121 B K19 (f_X11_peace_L32 B K19 Q n) Q v0 v1 v2 v3 v4 v5 Z47 I56 L57)))))))))))))))))))) ∧ (r22 = 0 → f_X11_peace_b175 B K19 (f_X11_peace_L32 B K19 Q n) Q v0 v1 v2 v3 v4 v5 Z I18 L19))))))) := h
    obtain ⟨K32, eK32⟩ : ∃ K : Nat → Int32 → Int32 → Int32 → Int32 → Int32 → jZ → jI → jL → Prop, K = f_X11_peace_L32 B K19 Q n := ⟨_, rfl⟩
    have hK32 := ih
    clear eK32 K32
    generalize f_X11_peace_L32 B K19 Q n = K32 at hK32 h
    refine j_iload E dX11_peace_32 5 rfl ?_
    refine j_bipush E (v := 8) dX11_peace_34 (by decide) ?_
    refine j_icmp_ge E 181 dX11_peace_36 (by decide) (fun c13 => ?_) (fun c13 => ?_)
    · have h := h.1 c13
      obtain ⟨x14, ex14⟩ : ∃ y : Int32, y = v4 + 1 := ⟨_, rfl⟩
      have h := h x14 ex14
      refine j_iinc E x14 [(4, .int x14), (0, .ref v0), (1, .int v1), (2, .int v2), (3, .int v3), (5, .int v5)] dX11_peace_181 4 rfl (by rw [ex14]; rfl) (by decide) rfl ?_
      refine j_goto E 19 dX11_peace_184 (by decide) ?_
      refine j_sub [1, 2, 3, 4, 0] rfl ?_
      exact hK19 v0 v1 v2 v3 x14 Z I L hZ hx hc hb kv0 h
    · have h := h.2 c13
      refine j_aload_n E dX11_peace_39 0 rfl ?_
      obtain ⟨b15, eb15, kb15⟩ := sh_o hZ kv0 (j := 2) (k := 8) rfl
      have h := h b15 eb15
      refine j_getr E 11 2 rfl rfl (by decide) (by decide) (iw iT_11) rfl rfl (tw W_454) kv0 eb15 dX11_peace_40 ?_
      refine j_iload E dX11_peace_43 4 rfl ?_
      refine j_iload E dX11_peace_45 5 rfl ?_
      refine j_callV E [.int v4, .int v5] [] (c_X8_inFeud (gL G) (gD G) (gY G) b15 v4 v5 Z I L _ hZ kb15 h) (gwV W_591 W_269 W_270 W_254 W_267) rfl ⟨rfl, fy_X8_inFeud⟩ ⟨Nat.le_of_ble_eq_true rfl, Nat.le_of_ble_eq_true rfl⟩ (c := 8) rfl (by decide) kb15 rfl rfl (Nat.le_of_ble_eq_true rfl) (ju_kn hb) dX11_peace_47 (fun v16 Z17 I18 L19 q20 => ?_)
      obtain ⟨rfl, r22, rfl, zr22, h⟩ := q20
      show jJ G 6 50 [(0, .ref v0), (1, .int v1), (2, .int v2), (3, .int v3), (4, .int v4), (5, .int v5)] [.int r22] Z I18 L19 (jcz Z - jcz Z0) (jsz Z - jsz Z0)
      refine j_if_ne E 56 dX11_peace_50 (by decide) (fun c23 => ?_) (fun c23 => ?_)
      · have h := h.1 c23
        refine j_aload_n E dX11_peace_56 0 rfl ?_
        obtain ⟨b24, eb24, kb24, lb24⟩ := sh_f hZ kv0 (j := 11) (k := 14) (m := 3) rfl
        have h := h b24 eb24
        refine j_getr E 11 11 rfl rfl (by decide) (by decide) (iw iT_11) rfl rfl (tw W_562) kv0 eb24 dX11_peace_57 ?_
        refine j_iconst E (v := 0) dX11_peace_60 (by decide) ?_
        refine j_aload_n E dX11_peace_61 0 rfl ?_
        obtain ⟨b25, eb25, kb25, lb25⟩ := sh_f hZ kv0 (j := 12) (k := 14) (m := 3) rfl
        have h := h b25 eb25
        refine j_getr E 11 12 rfl rfl (by decide) (by decide) (iw iT_11) rfl rfl (tw W_567) kv0 eb25 dX11_peace_62 ?_
        refine j_iconst E (v := 0) dX11_peace_65 (by decide) ?_
        refine j_aload_n E dX11_peace_66 0 rfl ?_
        obtain ⟨b26, eb26, kb26, lb26⟩ := sh_f hZ kv0 (j := 11) (k := 14) (m := 3) rfl
        have h := h b26 eb26
        refine j_getr E 11 11 rfl rfl (by decide) (by decide) (iw iT_11) rfl rfl (tw W_562) kv0 eb26 dX11_peace_67 ?_
        refine j_alen14 E (v := 3) kb26 (by rw [lb26]; rfl) dX11_peace_70 ?_
        obtain ⟨o27, h⟩ := h
        refine j_copyi E (tw W_592) (tw W_11) (tw W_12) (tw W_13) kb24 kb25 o27.1 o27.2.1 o27.2.2.1 (by rw [lb24]; exact o27.2.2.2.1) (by rw [lb25]; exact o27.2.2.2.2) (Nat.le_of_ble_eq_true rfl) (Nat.le_of_ble_eq_true rfl) dX11_peace_71 ?_
        refine j_nmI (fun I28 eI28 => ?_)
        have h := h I28 eI28
        refine j_aload_n E dX11_peace_74 0 rfl ?_
        obtain ⟨b29, eb29, kb29⟩ := sh_o hZ kv0 (j := 2) (k := 8) rfl
        have h := h b29 eb29
        refine j_getr E 11 2 rfl rfl (by decide) (by decide) (iw iT_11) rfl rfl (tw W_454) kv0 eb29 dX11_peace_75 ?_
        refine j_iload E dX11_peace_78 4 rfl ?_
        refine j_iload E dX11_peace_80 5 rfl ?_
        refine j_callV E [.int v4, .int v5] [] (c_X8_mindsFeud (gL G) (gD G) (gY G) b29 v4 v5 Z I28 L19 _ hZ kb29 h) (gwV W_594 W_595 W_596 W_254 W_593) rfl ⟨rfl, fy_X8_mindsFeud⟩ ⟨Nat.le_of_ble_eq_true rfl, Nat.le_of_ble_eq_true rfl⟩ (c := 8) rfl (by decide) kb29 rfl rfl (Nat.le_of_ble_eq_true rfl) (ju_kn hb) dX11_peace_82 (fun v30 Z31 I32 L33 q34 => ?_)
        obtain ⟨rfl, r36, rfl, zr36, h⟩ := q34
        show jJ G 6 85 [(0, .ref v0), (1, .int v1), (2, .int v2), (3, .int v3), (4, .int v4), (5, .int v5)] [.int r36] Z I32 L33 (jcz Z - jcz Z0) (jsz Z - jsz Z0)
        refine j_if_eq E 121 dX11_peace_85 (by decide) (fun c37 => ?_) (fun c37 => ?_)
        · have h := h.1 c37
          refine j_sub [0, 1, 2, 3, 4, 5] rfl ?_
          exact m_X11_peace_b121 E EU K19 hK19 K32 hK32 v0 v1 v2 v3 v4 v5 Z I32 L33 hZ hx hc hb kv0 h
        · have h := h.2 c37
          refine j_aload_n E dX11_peace_88 0 rfl ?_
          obtain ⟨b38, eb38, kb38⟩ := sh_o hZ kv0 (j := 2) (k := 8) rfl
          have h := h b38 eb38
          refine j_getr E 11 2 rfl rfl (by decide) (by decide) (iw iT_11) rfl rfl (tw W_454) kv0 eb38 dX11_peace_89 ?_
          refine j_iload E dX11_peace_92 4 rfl ?_
          refine j_iload E dX11_peace_94 5 rfl ?_
          refine j_iconst E (v := 0) dX11_peace_96 (by decide) ?_
          refine j_callV E [.int v4, .int v5, .int (0 : Int32)] [] (c_X8_quarrel (gL G) (gD G) (gY G) b38 v4 v5 (0 : Int32) Z I32 L33 _ hZ kb38 h) (gwV W_478 W_479 W_480 W_254 W_477) rfl ⟨rfl, fy_X8_quarrel⟩ ⟨Nat.le_of_ble_eq_true rfl, Nat.le_of_ble_eq_true rfl⟩ (c := 8) rfl (by decide) kb38 rfl rfl (Nat.le_of_ble_eq_true rfl) (ju_kn hb) dX11_peace_97 (fun v39 Z40 I41 L42 q43 => ?_)
          obtain ⟨rfl, rfl, h⟩ := q43
          show jJ G 6 100 [(0, .ref v0), (1, .int v1), (2, .int v2), (3, .int v3), (4, .int v4), (5, .int v5)] [] Z I41 L42 (jcz Z - jcz Z0) (jsz Z - jsz Z0)
          refine j_aload_n E dX11_peace_100 0 rfl ?_
          refine j_iconst E (v := -1) dX11_peace_101 (by decide) ?_
          refine j_aload_n E dX11_peace_102 0 rfl ?_
          obtain ⟨b45, eb45, kb45, lb45⟩ := sh_f hZ kv0 (j := 12) (k := 14) (m := 3) rfl
          have h := h b45 eb45
          refine j_getr E 11 12 rfl rfl (by decide) (by decide) (iw iT_11) rfl rfl (tw W_567) kv0 eb45 dX11_peace_103 ?_
          refine ju_callV E [.int (-1 : Int32), .ref b45] [] (c_X11_sumUp (gL G) (gD G) (gY G) B v0 (-1 : Int32) b45 Z I41 L42 _ hZ hb kv0 kb45 h) (gwV W_564 W_565 W_566 W_40 W_563) rfl ⟨rfl, fy_X11_sumUp⟩ ⟨Nat.le_of_ble_eq_true rfl, Nat.le_of_ble_eq_true rfl⟩ (c := 11) rfl (by decide) kv0 rfl rfl (Nat.le_of_ble_eq_true rfl) (ju_f hc hb) dX11_peace_106 (fun v46 Z47 I48 L49 q50 j51 => ?_)
          refine ju_next hc j51 ?_
          have hc := jle_trans hc j51
          obtain ⟨yZ47, hZ47, hbZ47, rfl, h⟩ := q50
          have hZ := hZ47
          have hx : jext Z0 Z47 := jext_trans hx yZ47
          have hb := hbZ47
          have k52 := (yZ47 _ _ kv0).1
          show jJ G 6 109 [(0, .ref v0), (1, .int v1), (2, .int v2), (3, .int v3), (4, .int v4), (5, .int v5)] [] Z47 I48 L49 (jcz Z47 - jcz Z0) (jsz Z47 - jsz Z0)
          refine j_aload_n E dX11_peace_109 0 rfl ?_
          obtain ⟨b53, eb53, kb53⟩ := sh_o hZ k52 (j := 2) (k := 8) rfl
          have h := h b53 eb53
          refine j_getr E 11 2 rfl rfl (by decide) (by decide) (iw iT_11) rfl rfl (tw W_454) k52 eb53 dX11_peace_110 ?_
          refine j_iload E dX11_peace_113 4 rfl ?_
          refine j_iload E dX11_peace_115 5 rfl ?_
          refine j_iconst E (v := 1) dX11_peace_117 (by decide) ?_
          refine j_callV E [.int v4, .int v5, .int (1 : Int32)] [] (c_X8_quarrel (gL G) (gD G) (gY G) b53 v4 v5 (1 : Int32) Z47 I48 L49 _ hZ kb53 h) (gwV W_478 W_479 W_480 W_254 W_477) rfl ⟨rfl, fy_X8_quarrel⟩ ⟨Nat.le_of_ble_eq_true rfl, Nat.le_of_ble_eq_true rfl⟩ (c := 8) rfl (by decide) kb53 rfl rfl (Nat.le_of_ble_eq_true rfl) (ju_kn hb) dX11_peace_118 (fun v54 Z55 I56 L57 q58 => ?_)
          obtain ⟨rfl, rfl, h⟩ := q58
          show jJ G 6 121 [(0, .ref v0), (1, .int v1), (2, .int v2), (3, .int v3), (4, .int v4), (5, .int v5)] [] Z47 I56 L57 (jcz Z47 - jcz Z0) (jsz Z47 - jsz Z0)
          refine j_sub [0, 1, 2, 3, 4, 5] rfl ?_
          exact m_X11_peace_b121 E EU K19 hK19 K32 hK32 v0 v1 v2 v3 v4 v5 Z47 I56 L57 hZ hx hc hb k52 h
      · have h := h.2 c23
        refine j_goto E 175 dX11_peace_53 (by decide) ?_
        refine j_sub [0, 1, 2, 3, 4, 5] rfl ?_
        exact m_X11_peace_b175 E EU K19 hK19 K32 hK32 v0 v1 v2 v3 v4 v5 Z I18 L19 hZ hx hc hb kv0 h
set_option maxRecDepth 100000 in
def f_X11_peace_L19 (B : Nat × Nat)  (Q : Int32 → jZ → jI → jL → Prop) : Nat → Nat → Int32 → Int32 → Int32 → Int32 → jZ → jI → jL → Prop
  | 0 => fun _ _ _ _ _ _ _ _ => False
  | n + 1 => fun v0 v1 v2 v3 v4 Z I L => (((8 : Int32) ≤ v4 → ((v1 = (-2 : Int32) → Q v1 Z I L) ∧ (¬ (v1 = (-2 : Int32)) → (f_X11_tellTwo v0 (v2.toInt64) (v3.toInt64) Z I L (fun I64 L65 => Q v1 Z I64 L65))))) ∧ (¬ ((8 : Int32) ≤ v4) → (∀ x68 : Int32, x68 = (v4 + (1 : Int32)) → (∃ m32 : Nat, f_X11_peace_L32 B (f_X11_peace_L19 B Q n) Q m32 v0 v1 v2 v3 v4 x68 Z I L))))
set_option maxHeartbeats 4000000 in
set_option maxRecDepth 100000 in
theorem m_X11_peace_L19 {G : jG} {Z0 : jZ} {B : Nat × Nat} {Q : Int32 → jZ → jI → jL → Prop} (E : jE G cX11_peace RX11 w_X11_peace 6 (some .int) (jrm B 8 209 Z0) jRF) (EU : jEU G B Z0 (urtI B Z0 Q))  : ∀ (n : Nat) (v0 : Nat) (v1 : Int32) (v2 : Int32) (v3 : Int32) (v4 : Int32) (Z : jZ) (I : jI) (L : jL), SH Z → jext Z0 Z → jle Z0 Z → jin B Z → jk Z v0 11 → f_X11_peace_L19 B  Q n v0 v1 v2 v3 v4 Z I L → jJ G 6 19 [(0, .ref v0), (1, .int v1), (2, .int v2), (3, .int v3), (4, .int v4)] [] Z I L (jcz Z - jcz Z0) (jsz Z - jsz Z0) := by
  intro n
  induction n with
  | zero => intro v0 v1 v2 v3 v4 Z I L _ _ _ _ _ h; exact h.elim
  | succ n ih =>
    intro v0 v1 v2 v3 v4 Z I L hZ hx hc hb kv0 h
    have h : (((8 : Int32) ≤ v4 → ((v1 = (-2 : Int32) → Q v1 Z I L) ∧ (¬ (v1 = (-2 : Int32)) → (f_X11_tellTwo v0 (v2.toInt64) (v3.toInt64) Z I L (fun I64 L65 => Q v1 Z I64 L65))))) ∧ (¬ ((8 : Int32) ≤ v4) → (∀ x68 : Int32, x68 = (v4 + (1 : Int32)) → (∃ m32 : Nat, f_X11_peace_L32 B (f_X11_peace_L19 B Q n) Q m32 v0 v1 v2 v3 v4 x68 Z I L)))) := h
    obtain ⟨K19, eK19⟩ : ∃ K : Nat → Int32 → Int32 → Int32 → Int32 → jZ → jI → jL → Prop, K = f_X11_peace_L19 B  Q n := ⟨_, rfl⟩
    have hK19 := ih
    clear eK19 K19
    generalize f_X11_peace_L19 B  Q n = K19 at hK19 h
    refine j_iload E dX11_peace_19 4 rfl ?_
    refine j_bipush E (v := 8) dX11_peace_21 (by decide) ?_
    refine j_icmp_ge E 187 dX11_peace_23 (by decide) (fun c60 => ?_) (fun c60 => ?_)
    · have h := h.1 c60
      refine j_iload_n E dX11_peace_187 1 rfl ?_
      refine j_bipush E (v := -2) dX11_peace_188 (by decide) ?_
      refine j_icmp_eq E 201 dX11_peace_190 (by decide) (fun c61 => ?_) (fun c61 => ?_)
      · have h := h.1 c61
        refine j_iload_n E dX11_peace_201 1 rfl ?_
        exact ju_ireturn E EU hc hb ⟨hx, hZ, hb, _, rfl, h⟩ dX11_peace_202
      · have h := h.2 c61
        refine j_aload_n E dX11_peace_193 0 rfl ?_
        refine j_iload_n E dX11_peace_194 2 rfl ?_
        refine j_i2l E dX11_peace_195 ?_
        refine j_iload_n E dX11_peace_196 3 rfl ?_
        refine j_i2l E dX11_peace_197 ?_
        refine j_callV E [.long (v2.toInt64), .long (v3.toInt64)] [] (c_X11_tellTwo (gL G) (gD G) (gY G) v0 (v2.toInt64) (v3.toInt64) Z I L _ hZ kv0 h) (gwV W_501 W_502 W_503 W_40 W_500) rfl ⟨rfl, fy_X11_tellTwo⟩ ⟨Nat.le_of_ble_eq_true rfl, Nat.le_of_ble_eq_true rfl⟩ (c := 11) rfl (by decide) kv0 rfl rfl (Nat.le_of_ble_eq_true rfl) (ju_kn hb) dX11_peace_198 (fun v62 Z63 I64 L65 q66 => ?_)
        obtain ⟨rfl, rfl, h⟩ := q66
        show jJ G 6 201 [(0, .ref v0), (1, .int v1), (2, .int v2), (3, .int v3), (4, .int v4)] [] Z I64 L65 (jcz Z - jcz Z0) (jsz Z - jsz Z0)
        refine j_iload_n E dX11_peace_201 1 rfl ?_
        exact ju_ireturn E EU hc hb ⟨hx, hZ, hb, _, rfl, h⟩ dX11_peace_202
    · have h := h.2 c60
      refine j_iload E dX11_peace_26 4 rfl ?_
      refine j_iconst E (v := 1) dX11_peace_28 (by decide) ?_
      refine j_iadd E dX11_peace_29 ?_
      refine j_topi (fun x68 ex68 => ?_)
      have h := h x68 ex68
      refine j_istore E 5 [(5, .int x68), (0, .ref v0), (1, .int v1), (2, .int v2), (3, .int v3), (4, .int v4)] dX11_peace_30 (by decide) rfl ?_
      obtain ⟨n69, h⟩ := h
      refine j_sub [1, 2, 3, 4, 5, 0] rfl ?_
      exact m_X11_peace_L32 E EU K19 hK19 n69 v0 v1 v2 v3 v4 x68 Z I L hZ hx hc hb kv0 h
set_option maxRecDepth 100000 in
def f_X11_peace (B : Nat × Nat) (v0 : Nat) (Z : jZ) (I : jI) (L : jL) (Q : Int32 → jZ → jI → jL → Prop) : Prop := (∀ b70 : Nat, jr Z v0 11 = some b70 → (f_X11_sumUp B v0 (-1 : Int32) b70 Z I L (fun Z72 I73 L74 => (∃ m19 : Nat, f_X11_peace_L19 B  Q m19 v0 (-2 : Int32) (0 : Int32) (0 : Int32) (0 : Int32) Z72 I73 L74))))
set_option maxHeartbeats 4000000 in
set_option maxRecDepth 100000 in
theorem c_X11_peace (l : Launch) (D : va_G) (cy : jC) (B : Nat × Nat) (v0 : Nat) (Z : jZ) (I : jI) (L : jL) (Q : Int32 → jZ → jI → jL → Prop) (hZ : SH Z) (hb : jin B Z) (kv0 : jk Z v0 11) (h : f_X11_peace B v0 Z I L Q) : jCtU l yX11_peace w_X11_peace B 8 209 D cy [.ref v0] Z I L (urtI B Z Q) := by
  refine jCtU_of (cc := cX11_peace) (maxL := 6) (ret := (some .int)) (by decide +kernel) rfl (Nat.le_of_ble_eq_true rfl) ?_
  intro G eD eY eL E EU
  subst eD; subst eY; subst eL
  have E : jE G cX11_peace RX11 w_X11_peace 6 (some .int) (jrm B 8 209 Z) jRF := E
  have hx : jext Z Z := jext_rfl
  have hc : jle Z Z := jle_rfl
  show jJ G 6 0 [(0, .ref v0)] [] Z I L (jcz Z - jcz Z) (jsz Z - jsz Z)
  refine j_aload_n E dX11_peace_0 0 rfl ?_
  refine j_iconst E (v := -1) dX11_peace_1 (by decide) ?_
  refine j_aload_n E dX11_peace_2 0 rfl ?_
  obtain ⟨b70, eb70, kb70, lb70⟩ := sh_f hZ kv0 (j := 11) (k := 14) (m := 3) rfl
  have h := h b70 eb70
  refine j_getr E 11 11 rfl rfl (by decide) (by decide) (iw iT_11) rfl rfl (tw W_562) kv0 eb70 dX11_peace_3 ?_
  refine ju_callV E [.int (-1 : Int32), .ref b70] [] (c_X11_sumUp (gL G) (gD G) (gY G) B v0 (-1 : Int32) b70 Z I L _ hZ hb kv0 kb70 h) (gwV W_564 W_565 W_566 W_40 W_563) rfl ⟨rfl, fy_X11_sumUp⟩ ⟨Nat.le_of_ble_eq_true rfl, Nat.le_of_ble_eq_true rfl⟩ (c := 11) rfl (by decide) kv0 rfl rfl (Nat.le_of_ble_eq_true rfl) (ju_f hc hb) dX11_peace_6 (fun v71 Z72 I73 L74 q75 j76 => ?_)
  refine ju_next hc j76 ?_
  have hc := jle_trans hc j76
  obtain ⟨yZ72, hZ72, hbZ72, rfl, h⟩ := q75
  have hZ := hZ72
  have hx : jext Z Z72 := jext_trans hx yZ72
  have hb := hbZ72
  have k77 := (yZ72 _ _ kv0).1
  show jJ G 6 9 [(0, .ref v0)] [] Z72 I73 L74 (jcz Z72 - jcz Z) (jsz Z72 - jsz Z)
  refine j_bipush E (v := -2) dX11_peace_9 (by decide) ?_
  refine j_istore_n E 1 [(1, .int (-2 : Int32)), (0, .ref v0)] dX11_peace_11 rfl (by decide) rfl ?_
  refine j_iconst E (v := 0) dX11_peace_12 (by decide) ?_
  refine j_istore_n E 2 [(2, .int (0 : Int32)), (1, .int (-2 : Int32)), (0, .ref v0)] dX11_peace_13 rfl (by decide) rfl ?_
  refine j_iconst E (v := 0) dX11_peace_14 (by decide) ?_
  refine j_istore_n E 3 [(3, .int (0 : Int32)), (2, .int (0 : Int32)), (1, .int (-2 : Int32)), (0, .ref v0)] dX11_peace_15 rfl (by decide) rfl ?_
  refine j_iconst E (v := 0) dX11_peace_16 (by decide) ?_
  refine j_istore E 4 [(4, .int (0 : Int32)), (3, .int (0 : Int32)), (2, .int (0 : Int32)), (1, .int (-2 : Int32)), (0, .ref v0)] dX11_peace_17 (by decide) rfl ?_
  obtain ⟨n78, h⟩ := h
  refine j_sub [4, 3, 2, 1, 0] rfl ?_
  exact m_X11_peace_L19 E EU  n78 v0 (-2 : Int32) (0 : Int32) (0 : Int32) (0 : Int32) Z72 I73 L74 hZ hx hc hb k77 h
set_option maxRecDepth 100000 in
def f_X11_lamps_L28  (Z : jZ) (Q : Int32 → jI → jL → Prop) : Nat → Nat → Int32 → Int32 → jI → jL → Prop
  | 0 => fun _ _ _ _ _ => False
  | n + 1 => fun v0 v1 v2 I L => (∀ b1 : Nat, jr Z v0 2 = some b1 → (((I b1 9) ≤ v2 → Q (I v0 16) I L) ∧ (¬ ((I b1 9) ≤ v2) → (∀ b3 : Nat, jr Z v0 2 = some b3 → (f_X11_tellMore v0 ((if ((I b3 9) - (1 : Int32)) < (v2 + v1) then ((I b3 9) - (1 : Int32)) else (v2 + v1)).toInt64) Z I L (fun I6 L7 => (∀ x10 : Int32, x10 = (v2 + (((2 : Int32) * v1) + (1 : Int32))) → (f_X11_lamps_L28 Z Q n) v0 v1 x10 I6 L7)))))))
set_option maxHeartbeats 4000000 in
set_option maxRecDepth 100000 in
theorem m_X11_lamps_L28 {G : jG} {Z : jZ} {Q : Int32 → jI → jL → Prop} (E : jE G cX11_lamps RX11 w_X11_lamps 3 (some .int) { frames := 1, cells := 0, slots := 0, locals := 23 } (rtI Z Q)) (hZ : SH Z)  : ∀ (n : Nat) (v0 : Nat) (v1 : Int32) (v2 : Int32) (I : jI) (L : jL), jk Z v0 11 → f_X11_lamps_L28  Z Q n v0 v1 v2 I L → jJ G 3 28 [(0, .ref v0), (1, .int v1), (2, .int v2)] [] Z I L 0 0 := by
  intro n
  induction n with
  | zero => intro v0 v1 v2 I L _ h; exact h.elim
  | succ n ih =>
    intro v0 v1 v2 I L kv0 h
    have h : (∀ b1 : Nat, jr Z v0 2 = some b1 → (((I b1 9) ≤ v2 → Q (I v0 16) I L) ∧ (¬ ((I b1 9) ≤ v2) → (∀ b3 : Nat, jr Z v0 2 = some b3 → (f_X11_tellMore v0 ((if ((I b3 9) - (1 : Int32)) < (v2 + v1) then ((I b3 9) - (1 : Int32)) else (v2 + v1)).toInt64) Z I L (fun I6 L7 => (∀ x10 : Int32, x10 = (v2 + (((2 : Int32) * v1) + (1 : Int32))) → (f_X11_lamps_L28 Z Q n) v0 v1 x10 I6 L7))))))) := h
    obtain ⟨K28, eK28⟩ : ∃ K : Nat → Int32 → Int32 → jI → jL → Prop, K = f_X11_lamps_L28  Z Q n := ⟨_, rfl⟩
    have hK28 := ih
    clear eK28 K28
    generalize f_X11_lamps_L28  Z Q n = K28 at hK28 h
    refine j_iload_n E dX11_lamps_28 2 rfl ?_
    refine j_aload_n E dX11_lamps_29 0 rfl ?_
    obtain ⟨b1, eb1, kb1⟩ := sh_o hZ kv0 (j := 2) (k := 8) rfl
    have h := h b1 eb1
    refine j_getr E 11 2 rfl rfl (by decide) (by decide) (iw iT_11) rfl rfl (tw W_454) kv0 eb1 dX11_lamps_30 ?_
    refine j_getiN E 8 9 rfl rfl (by decide) (by decide) (iw iT_8) rfl rfl (nw_8_9_X11_172) kb1 dX11_lamps_33 ?_
    refine j_icmp_ge E 70 dX11_lamps_36 (by decide) (fun c2 => ?_) (fun c2 => ?_)
    · have h := h.1 c2
      refine j_aload_n E dX11_lamps_70 0 rfl ?_
      refine j_geti E 11 16 rfl rfl (by decide) (by decide) (iw iT_11) rfl rfl (tw W_481) kv0 dX11_lamps_71 ?_
      exact j_ireturn E ⟨rfl, _, rfl, h⟩ (Nat.zero_le _) (Nat.zero_le _) dX11_lamps_74
    · have h := h.2 c2
      refine j_aload_n E dX11_lamps_39 0 rfl ?_
      refine j_iload_n E dX11_lamps_40 2 rfl ?_
      refine j_iload_n E dX11_lamps_41 1 rfl ?_
      refine j_iadd E dX11_lamps_42 ?_
      refine j_aload_n E dX11_lamps_43 0 rfl ?_
      obtain ⟨b3, eb3, kb3⟩ := sh_o hZ kv0 (j := 2) (k := 8) rfl
      have h := h b3 eb3
      refine j_getr E 11 2 rfl rfl (by decide) (by decide) (iw iT_11) rfl rfl (tw W_454) kv0 eb3 dX11_lamps_44 ?_
      refine j_getiN E 8 9 rfl rfl (by decide) (by decide) (iw iT_8) rfl rfl (nw_8_9_X11_172) kb3 dX11_lamps_47 ?_
      refine j_iconst E (v := 1) dX11_lamps_50 (by decide) ?_
      refine j_isub E dX11_lamps_51 ?_
      refine j_min E (tw W_467) (tw W_7) (tw W_8) (tw W_9) (Nat.le_of_ble_eq_true rfl) (Nat.le_of_ble_eq_true rfl) (Nat.zero_le _) (Nat.zero_le _) dX11_lamps_52 ?_
      refine j_i2l E dX11_lamps_55 ?_
      refine j_callV E [.long ((if ((I b3 9) - (1 : Int32)) < (v2 + v1) then ((I b3 9) - (1 : Int32)) else (v2 + v1)).toInt64)] [] (c_X11_tellMore (gL G) (gD G) (gY G) v0 ((if ((I b3 9) - (1 : Int32)) < (v2 + v1) then ((I b3 9) - (1 : Int32)) else (v2 + v1)).toInt64) Z I L _ hZ kv0 h) (gwV W_488 W_489 W_490 W_40 W_487) rfl ⟨rfl, fy_X11_tellMore⟩ ⟨by decide, by decide⟩ (c := 11) rfl (by decide) kv0 rfl rfl (Nat.le_of_ble_eq_true rfl) ⟨Nat.zero_le _, Nat.zero_le _⟩ dX11_lamps_56 (fun v4 Z5 I6 L7 q8 => ?_)
      obtain ⟨rfl, rfl, h⟩ := q8
      show jJ G 3 59 [(0, .ref v0), (1, .int v1), (2, .int v2)] [] Z I6 L7 0 0
      refine j_iload_n E dX11_lamps_59 2 rfl ?_
      refine j_iconst E (v := 2) dX11_lamps_60 (by decide) ?_
      refine j_iload_n E dX11_lamps_61 1 rfl ?_
      refine j_imul E dX11_lamps_62 ?_
      refine j_iconst E (v := 1) dX11_lamps_63 (by decide) ?_
      refine j_iadd E dX11_lamps_64 ?_
      refine j_iadd E dX11_lamps_65 ?_
      refine j_topi (fun x10 ex10 => ?_)
      have h := h x10 ex10
      refine j_istore_n E 2 [(2, .int x10), (0, .ref v0), (1, .int v1)] dX11_lamps_66 rfl (by decide) rfl ?_
      refine j_goto E 28 dX11_lamps_67 (by decide) ?_
      refine j_sub [1, 2, 0] rfl ?_
      exact hK28 v0 v1 x10 I6 L7 kv0 h
set_option maxRecDepth 100000 in
def f_X11_lamps (v0 : Nat) (v1 : Int32) (Z : jZ) (I : jI) (L : jL) (Q : Int32 → jI → jL → Prop) : Prop := ((v1 < 0 → Q (-1 : Int32) I L) ∧ (¬ (v1 < 0) → (((24 : Int32) ≤ v1 → Q (-1 : Int32) I L) ∧ (¬ ((24 : Int32) ≤ v1) → (∀ b13 : Nat, jr Z v0 2 = some b13 → ((¬ (I b13 9) = 0 → (f_X11_tellNothing v0 Z I L (fun I17 L18 => (∃ m28 : Nat, f_X11_lamps_L28  Z Q m28 v0 v1 (0 : Int32) I17 L18)))) ∧ ((I b13 9) = 0 → Q (-1 : Int32) I L)))))))
set_option maxHeartbeats 4000000 in
set_option maxRecDepth 100000 in
theorem c_X11_lamps (l : Launch) (D : va_G) (cy : jC) (v0 : Nat) (v1 : Int32) (Z : jZ) (I : jI) (L : jL) (Q : Int32 → jI → jL → Prop) (hZ : SH Z) (kv0 : jk Z v0 11) (h : f_X11_lamps v0 v1 Z I L Q) : jCt l yX11_lamps w_X11_lamps { frames := 1, cells := 0, slots := 0, locals := 23 } D cy [.ref v0, .int v1] Z I L (rtI Z Q) := by
  refine jCt_of (cc := cX11_lamps) (maxL := 3) (ret := (some .int)) (by decide +kernel) rfl (Nat.le_of_ble_eq_true rfl) ?_
  intro G eD eY eL E
  subst eD; subst eY; subst eL
  have E : jE G cX11_lamps RX11 w_X11_lamps 3 (some .int) { frames := 1, cells := 0, slots := 0, locals := 23 } (rtI Z Q) := E
  show jJ G 3 0 [(0, .ref v0), (1, .int v1)] [] Z I L 0 0
  refine j_iload_n E dX11_lamps_0 1 rfl ?_
  refine j_if_lt E 20 dX11_lamps_1 (by decide) (fun c11 => ?_) (fun c11 => ?_)
  · have h := h.1 c11
    refine j_iconst E (v := -1) dX11_lamps_20 (by decide) ?_
    exact j_ireturn E ⟨rfl, _, rfl, h⟩ (Nat.zero_le _) (Nat.zero_le _) dX11_lamps_21
  · have h := h.2 c11
    refine j_iload_n E dX11_lamps_4 1 rfl ?_
    refine j_bipush E (v := 24) dX11_lamps_5 (by decide) ?_
    refine j_icmp_ge E 20 dX11_lamps_7 (by decide) (fun c12 => ?_) (fun c12 => ?_)
    · have h := h.1 c12
      refine j_iconst E (v := -1) dX11_lamps_20 (by decide) ?_
      exact j_ireturn E ⟨rfl, _, rfl, h⟩ (Nat.zero_le _) (Nat.zero_le _) dX11_lamps_21
    · have h := h.2 c12
      refine j_aload_n E dX11_lamps_10 0 rfl ?_
      obtain ⟨b13, eb13, kb13⟩ := sh_o hZ kv0 (j := 2) (k := 8) rfl
      have h := h b13 eb13
      refine j_getr E 11 2 rfl rfl (by decide) (by decide) (iw iT_11) rfl rfl (tw W_454) kv0 eb13 dX11_lamps_11 ?_
      refine j_getiN E 8 9 rfl rfl (by decide) (by decide) (iw iT_8) rfl rfl (nw_8_9_X11_172) kb13 dX11_lamps_14 ?_
      refine j_if_ne E 22 dX11_lamps_17 (by decide) (fun c14 => ?_) (fun c14 => ?_)
      · have h := h.1 c14
        refine j_aload_n E dX11_lamps_22 0 rfl ?_
        refine j_callV E [] [] (c_X11_tellNothing (gL G) (gD G) (gY G) v0 Z I L _ hZ kv0 h) (gwV W_484 W_485 W_486 W_40 W_483) rfl ⟨rfl, fy_X11_tellNothing⟩ ⟨by decide, by decide⟩ (c := 11) rfl (by decide) kv0 rfl rfl (Nat.le_of_ble_eq_true rfl) ⟨Nat.zero_le _, Nat.zero_le _⟩ dX11_lamps_23 (fun v15 Z16 I17 L18 q19 => ?_)
        obtain ⟨rfl, rfl, h⟩ := q19
        show jJ G 3 26 [(0, .ref v0), (1, .int v1)] [] Z I17 L18 0 0
        refine j_iconst E (v := 0) dX11_lamps_26 (by decide) ?_
        refine j_istore_n E 2 [(2, .int (0 : Int32)), (0, .ref v0), (1, .int v1)] dX11_lamps_27 rfl (by decide) rfl ?_
        obtain ⟨n21, h⟩ := h
        refine j_sub [1, 2, 0] rfl ?_
        exact m_X11_lamps_L28 E hZ  n21 v0 v1 (0 : Int32) I17 L18 kv0 h
      · have h := h.2 c14
        refine j_iconst E (v := -1) dX11_lamps_20 (by decide) ?_
        exact j_ireturn E ⟨rfl, _, rfl, h⟩ (Nat.zero_le _) (Nat.zero_le _) dX11_lamps_21
set_option maxRecDepth 100000 in
def f_X11_would (B : Nat × Nat) (v0 : Nat) (v1 : Int32) (v2 : Int32) (Z : jZ) (I : jI) (L : jL) (Q : Int32 → jZ → jI → jL → Prop) : Prop := (∀ b1 : Nat, jr Z v0 2 = some b1 → (f_X8_has b1 v1 Z I L (fun r8 I4 L5 => ((r8 = 0 → Q (-1 : Int32) Z I4 L5) ∧ (¬ (r8 = 0) → (f_X11_isAsked v2 Z I4 L5 (fun r16 I12 L13 => ((¬ r16 = 0 → (f_X11_weighAlone B v0 v1 Z I12 L13 (fun Z19 I20 L21 => (∀ b25 : Nat, jr Z19 v0 13 = some b25 → (vp_in v2 21 ∧ Q (I20 b25 v2.toNatClampNeg) Z19 I20 L21))))) ∧ (r16 = 0 → Q (-1 : Int32) Z I12 L13)))))))))
set_option maxHeartbeats 4000000 in
set_option maxRecDepth 100000 in
theorem c_X11_would (l : Launch) (D : va_G) (cy : jC) (B : Nat × Nat) (v0 : Nat) (v1 : Int32) (v2 : Int32) (Z : jZ) (I : jI) (L : jL) (Q : Int32 → jZ → jI → jL → Prop) (hZ : SH Z) (hb : jin B Z) (kv0 : jk Z v0 11) (h : f_X11_would B v0 v1 v2 Z I L Q) : jCtU l yX11_would w_X11_would B 7 186 D cy [.ref v0, .int v1, .int v2] Z I L (urtI B Z Q) := by
  refine jCtU_of (cc := cX11_would) (maxL := 3) (ret := (some .int)) (by decide +kernel) rfl (Nat.le_of_ble_eq_true rfl) ?_
  intro G eD eY eL E EU
  subst eD; subst eY; subst eL
  have E : jE G cX11_would RX11 w_X11_would 3 (some .int) (jrm B 7 186 Z) jRF := E
  have hx : jext Z Z := jext_rfl
  have hc : jle Z Z := jle_rfl
  show jJ G 3 0 [(0, .ref v0), (1, .int v1), (2, .int v2)] [] Z I L (jcz Z - jcz Z) (jsz Z - jsz Z)
  refine j_aload_n E dX11_would_0 0 rfl ?_
  obtain ⟨b1, eb1, kb1⟩ := sh_o hZ kv0 (j := 2) (k := 8) rfl
  have h := h b1 eb1
  refine j_getr E 11 2 rfl rfl (by decide) (by decide) (iw iT_11) rfl rfl (tw W_454) kv0 eb1 dX11_would_1 ?_
  refine j_iload_n E dX11_would_4 1 rfl ?_
  refine j_callV E [.int v1] [] (c_X8_has (gL G) (gD G) (gY G) b1 v1 Z I L _ hZ kb1 h) (gwV W_463 W_256 W_257 W_254 W_253) rfl ⟨rfl, fy_X8_has⟩ ⟨Nat.le_of_ble_eq_true rfl, Nat.le_of_ble_eq_true rfl⟩ (c := 8) rfl (by decide) kb1 rfl rfl (Nat.le_of_ble_eq_true rfl) (ju_kn hb) dX11_would_5 (fun v2 Z3 I4 L5 q6 => ?_)
  obtain ⟨rfl, r8, rfl, zr8, h⟩ := q6
  show jJ G 3 8 [(0, .ref v0), (1, .int v1), (2, .int v2)] [.int r8] Z I4 L5 (jcz Z - jcz Z) (jsz Z - jsz Z)
  refine j_if_eq E 18 dX11_would_8 (by decide) (fun c9 => ?_) (fun c9 => ?_)
  · have h := h.1 c9
    refine j_iconst E (v := -1) dX11_would_18 (by decide) ?_
    exact ju_ireturn E EU hc hb ⟨hx, hZ, hb, _, rfl, h⟩ dX11_would_19
  · have h := h.2 c9
    refine j_iload_n E dX11_would_11 2 rfl ?_
    refine j_callS E [.int v2] [] (c_X11_isAsked (gL G) (gD G) (gY G) v2 Z I4 L5 _ hZ  h) (gwS W_597 W_356 W_40 W_355) rfl fy_X11_isAsked ⟨Nat.le_of_ble_eq_true rfl, Nat.le_of_ble_eq_true rfl⟩ rfl rfl (Nat.le_of_ble_eq_true rfl) (ju_kn hb) dX11_would_12 (fun v10 Z11 I12 L13 q14 => ?_)
    obtain ⟨rfl, r16, rfl, zr16, h⟩ := q14
    show jJ G 3 15 [(0, .ref v0), (1, .int v1), (2, .int v2)] [.int r16] Z I12 L13 (jcz Z - jcz Z) (jsz Z - jsz Z)
    refine j_if_ne E 20 dX11_would_15 (by decide) (fun c17 => ?_) (fun c17 => ?_)
    · have h := h.1 c17
      refine j_aload_n E dX11_would_20 0 rfl ?_
      refine j_iload_n E dX11_would_21 1 rfl ?_
      refine ju_callV E [.int v1] [] (c_X11_weighAlone (gL G) (gD G) (gY G) B v0 v1 Z I12 L13 _ hZ hb kv0 h) (gwV W_588 W_589 W_590 W_40 W_587) rfl ⟨rfl, fy_X11_weighAlone⟩ ⟨Nat.le_of_ble_eq_true rfl, Nat.le_of_ble_eq_true rfl⟩ (c := 11) rfl (by decide) kv0 rfl rfl (Nat.le_of_ble_eq_true rfl) (ju_f hc hb) dX11_would_22 (fun v18 Z19 I20 L21 q22 j23 => ?_)
      refine ju_next hc j23 ?_
      have hc := jle_trans hc j23
      obtain ⟨yZ19, hZ19, hbZ19, rfl, h⟩ := q22
      have hZ := hZ19
      have hx : jext Z Z19 := jext_trans hx yZ19
      have hb := hbZ19
      have k24 := (yZ19 _ _ kv0).1
      show jJ G 3 25 [(0, .ref v0), (1, .int v1), (2, .int v2)] [] Z19 I20 L21 (jcz Z19 - jcz Z) (jsz Z19 - jsz Z)
      refine j_aload_n E dX11_would_25 0 rfl ?_
      obtain ⟨b25, eb25, kb25, lb25⟩ := sh_f hZ k24 (j := 13) (k := 14) (m := 21) rfl
      have h := h b25 eb25
      refine j_getr E 11 13 rfl rfl (by decide) (by decide) (iw iT_11) rfl rfl (tw W_572) k24 eb25 dX11_would_26 ?_
      refine j_iload_n E dX11_would_29 2 rfl ?_
      obtain ⟨o26, h⟩ := h
      refine j_iald E kb25 (by rw [lb25]; exact o26) dX11_would_30 ?_
      exact ju_ireturn E EU hc hb ⟨hx, hZ, hb, _, rfl, h⟩ dX11_would_31
    · have h := h.2 c17
      refine j_iconst E (v := -1) dX11_would_18 (by decide) ?_
      exact ju_ireturn E EU hc hb ⟨hx, hZ, hb, _, rfl, h⟩ dX11_would_19
set_option maxRecDepth 100000 in
def f_X11_mostPaid_b30 (K4 : Nat → Int32 → Int32 → jI → jL → Prop) (Z : jZ) (Q : Int32 → jI → jL → Prop) (v0 : Nat) (v2 : Int32) (s0 : Int32) (I : jI) (L : jL) : Prop := (∀ x1 : Int32, x1 = v2 + 1 → K4 v0 s0 x1 I L)
set_option maxHeartbeats 4000000 in
set_option maxRecDepth 100000 in
theorem m_X11_mostPaid_b30 {G : jG} {Z : jZ} {Q : Int32 → jI → jL → Prop} (E : jE G cX11_mostPaid RX11 w_X11_mostPaid 3 (some .int) { frames := 0, cells := 0, slots := 0, locals := 0 } (rtI Z Q)) (hZ : SH Z) (K4 : Nat → Int32 → Int32 → jI → jL → Prop) (hK4 : ∀ (v0 : Nat) (v1 : Int32) (v2 : Int32) (I : jI) (L : jL), jk Z v0 11 → K4 v0 v1 v2 I L → jJ G 3 4 [(0, .ref v0), (1, .int v1), (2, .int v2)] [] Z I L 0 0) (v0 : Nat) (v2 : Int32) (s0 : Int32) (I : jI) (L : jL) (kv0 : jk Z v0 11) (h : f_X11_mostPaid_b30 K4 Z Q v0 v2 s0 I L) : jJ G 3 30 [(0, .ref v0), (2, .int v2)] [.int s0] Z I L 0 0 := by
  refine j_istore_n E 1 [(1, .int s0), (0, .ref v0), (2, .int v2)] dX11_mostPaid_30 rfl (by decide) rfl ?_
  obtain ⟨x1, ex1⟩ : ∃ y : Int32, y = v2 + 1 := ⟨_, rfl⟩
  have h := h x1 ex1
  refine j_iinc E x1 [(2, .int x1), (1, .int s0), (0, .ref v0)] dX11_mostPaid_31 2 rfl (by rw [ex1]; rfl) (by decide) rfl ?_
  refine j_goto E 4 dX11_mostPaid_34 (by decide) ?_
  refine j_sub [2, 1, 0] rfl ?_
  exact hK4 v0 s0 x1 I L kv0 h
set_option maxRecDepth 100000 in
def f_X11_mostPaid_L4  (Z : jZ) (Q : Int32 → jI → jL → Prop) : Nat → Nat → Int32 → Int32 → jI → jL → Prop
  | 0 => fun _ _ _ _ _ => False
  | n + 1 => fun v0 v1 v2 I L => (((20 : Int32) < v2 → Q v1 I L) ∧ (¬ ((20 : Int32) < v2) → (∀ b3 : Nat, jr Z v0 13 = some b3 → (vp_in v2 21 ∧ (∀ b5 : Nat, jr Z v0 13 = some b5 → (vp_in v1 21 ∧ (((I b3 v2.toNatClampNeg) ≤ (I b5 v1.toNatClampNeg) → f_X11_mostPaid_b30 (f_X11_mostPaid_L4 Z Q n) Z Q v0 v2 v1 I L) ∧ (¬ ((I b3 v2.toNatClampNeg) ≤ (I b5 v1.toNatClampNeg)) → f_X11_mostPaid_b30 (f_X11_mostPaid_L4 Z Q n) Z Q v0 v2 v2 I L))))))))
set_option maxHeartbeats 4000000 in
set_option maxRecDepth 100000 in
theorem m_X11_mostPaid_L4 {G : jG} {Z : jZ} {Q : Int32 → jI → jL → Prop} (E : jE G cX11_mostPaid RX11 w_X11_mostPaid 3 (some .int) { frames := 0, cells := 0, slots := 0, locals := 0 } (rtI Z Q)) (hZ : SH Z)  : ∀ (n : Nat) (v0 : Nat) (v1 : Int32) (v2 : Int32) (I : jI) (L : jL), jk Z v0 11 → f_X11_mostPaid_L4  Z Q n v0 v1 v2 I L → jJ G 3 4 [(0, .ref v0), (1, .int v1), (2, .int v2)] [] Z I L 0 0 := by
  intro n
  induction n with
  | zero => intro v0 v1 v2 I L _ h; exact h.elim
  | succ n ih =>
    intro v0 v1 v2 I L kv0 h
    have h : (((20 : Int32) < v2 → Q v1 I L) ∧ (¬ ((20 : Int32) < v2) → (∀ b3 : Nat, jr Z v0 13 = some b3 → (vp_in v2 21 ∧ (∀ b5 : Nat, jr Z v0 13 = some b5 → (vp_in v1 21 ∧ (((I b3 v2.toNatClampNeg) ≤ (I b5 v1.toNatClampNeg) → f_X11_mostPaid_b30 (f_X11_mostPaid_L4 Z Q n) Z Q v0 v2 v1 I L) ∧ (¬ ((I b3 v2.toNatClampNeg) ≤ (I b5 v1.toNatClampNeg)) → f_X11_mostPaid_b30 (f_X11_mostPaid_L4 Z Q n) Z Q v0 v2 v2 I L)))))))) := h
    obtain ⟨K4, eK4⟩ : ∃ K : Nat → Int32 → Int32 → jI → jL → Prop, K = f_X11_mostPaid_L4  Z Q n := ⟨_, rfl⟩
    have hK4 := ih
    clear eK4 K4
    generalize f_X11_mostPaid_L4  Z Q n = K4 at hK4 h
    refine j_iload_n E dX11_mostPaid_4 2 rfl ?_
    refine j_bipush E (v := 20) dX11_mostPaid_5 (by decide) ?_
    refine j_icmp_gt E 37 dX11_mostPaid_7 (by decide) (fun c2 => ?_) (fun c2 => ?_)
    · have h := h.1 c2
      refine j_iload_n E dX11_mostPaid_37 1 rfl ?_
      exact j_ireturn E ⟨rfl, _, rfl, h⟩ (Nat.zero_le _) (Nat.zero_le _) dX11_mostPaid_38
    · have h := h.2 c2
      refine j_aload_n E dX11_mostPaid_10 0 rfl ?_
      obtain ⟨b3, eb3, kb3, lb3⟩ := sh_f hZ kv0 (j := 13) (k := 14) (m := 21) rfl
      have h := h b3 eb3
      refine j_getr E 11 13 rfl rfl (by decide) (by decide) (iw iT_11) rfl rfl (tw W_572) kv0 eb3 dX11_mostPaid_11 ?_
      refine j_iload_n E dX11_mostPaid_14 2 rfl ?_
      obtain ⟨o4, h⟩ := h
      refine j_iald E kb3 (by rw [lb3]; exact o4) dX11_mostPaid_15 ?_
      refine j_aload_n E dX11_mostPaid_16 0 rfl ?_
      obtain ⟨b5, eb5, kb5, lb5⟩ := sh_f hZ kv0 (j := 13) (k := 14) (m := 21) rfl
      have h := h b5 eb5
      refine j_getr E 11 13 rfl rfl (by decide) (by decide) (iw iT_11) rfl rfl (tw W_572) kv0 eb5 dX11_mostPaid_17 ?_
      refine j_iload_n E dX11_mostPaid_20 1 rfl ?_
      obtain ⟨o6, h⟩ := h
      refine j_iald E kb5 (by rw [lb5]; exact o6) dX11_mostPaid_21 ?_
      refine j_icmp_le E 29 dX11_mostPaid_22 (by decide) (fun c7 => ?_) (fun c7 => ?_)
      · have h := h.1 c7
        refine j_iload_n E dX11_mostPaid_29 1 rfl ?_
        refine j_sub [0, 2] rfl ?_
        exact m_X11_mostPaid_b30 E hZ K4 hK4 v0 v2 v1 I L kv0 h
      · have h := h.2 c7
        refine j_iload_n E dX11_mostPaid_25 2 rfl ?_
        refine j_goto E 30 dX11_mostPaid_26 (by decide) ?_
        refine j_sub [0, 2] rfl ?_
        exact m_X11_mostPaid_b30 E hZ K4 hK4 v0 v2 v2 I L kv0 h
set_option maxRecDepth 100000 in
def f_X11_mostPaid (v0 : Nat) (Z : jZ) (I : jI) (L : jL) (Q : Int32 → jI → jL → Prop) : Prop := (∃ m4 : Nat, f_X11_mostPaid_L4  Z Q m4 v0 (0 : Int32) (1 : Int32) I L)
set_option maxHeartbeats 4000000 in
set_option maxRecDepth 100000 in
theorem c_X11_mostPaid (l : Launch) (D : va_G) (cy : jC) (v0 : Nat) (Z : jZ) (I : jI) (L : jL) (Q : Int32 → jI → jL → Prop) (hZ : SH Z) (kv0 : jk Z v0 11) (h : f_X11_mostPaid v0 Z I L Q) : jCt l yX11_mostPaid w_X11_mostPaid { frames := 0, cells := 0, slots := 0, locals := 0 } D cy [.ref v0] Z I L (rtI Z Q) := by
  refine jCt_of (cc := cX11_mostPaid) (maxL := 3) (ret := (some .int)) (by decide +kernel) rfl (Nat.le_of_ble_eq_true rfl) ?_
  intro G eD eY eL E
  subst eD; subst eY; subst eL
  have E : jE G cX11_mostPaid RX11 w_X11_mostPaid 3 (some .int) { frames := 0, cells := 0, slots := 0, locals := 0 } (rtI Z Q) := E
  show jJ G 3 0 [(0, .ref v0)] [] Z I L 0 0
  refine j_iconst E (v := 0) dX11_mostPaid_0 (by decide) ?_
  refine j_istore_n E 1 [(1, .int (0 : Int32)), (0, .ref v0)] dX11_mostPaid_1 rfl (by decide) rfl ?_
  refine j_iconst E (v := 1) dX11_mostPaid_2 (by decide) ?_
  refine j_istore_n E 2 [(2, .int (1 : Int32)), (1, .int (0 : Int32)), (0, .ref v0)] dX11_mostPaid_3 rfl (by decide) rfl ?_
  obtain ⟨n8, h⟩ := h
  refine j_sub [2, 1, 0] rfl ?_
  exact m_X11_mostPaid_L4 E hZ  n8 v0 (0 : Int32) (1 : Int32) I L kv0 h
set_option maxRecDepth 100000 in
def f_X11_best (B : Nat × Nat) (v0 : Nat) (v1 : Int32) (Z : jZ) (I : jI) (L : jL) (Q : Int32 → jZ → jI → jL → Prop) : Prop := (∀ b1 : Nat, jr Z v0 2 = some b1 → (f_X8_has b1 v1 Z I L (fun r8 I4 L5 => ((¬ r8 = 0 → (f_X11_weighAlone B v0 v1 Z I4 L5 (fun Z11 I12 L13 => (f_X11_mostPaid v0 Z11 I12 L13 (fun r23 I19 L20 => (∀ b24 : Nat, jr Z11 v0 13 = some b24 → (vp_in r23 21 ∧ (f_X11_tellOne v0 ((I19 b24 r23.toNatClampNeg).toInt64) Z11 I19 L20 (fun I28 L29 => Q r23 Z11 I28 L29))))))))) ∧ (r8 = 0 → Q (-1 : Int32) Z I4 L5)))))
set_option maxHeartbeats 4000000 in
set_option maxRecDepth 100000 in
theorem c_X11_best (l : Launch) (D : va_G) (cy : jC) (B : Nat × Nat) (v0 : Nat) (v1 : Int32) (Z : jZ) (I : jI) (L : jL) (Q : Int32 → jZ → jI → jL → Prop) (hZ : SH Z) (hb : jin B Z) (kv0 : jk Z v0 11) (h : f_X11_best B v0 v1 Z I L Q) : jCtU l yX11_best w_X11_best B 7 186 D cy [.ref v0, .int v1] Z I L (urtI B Z Q) := by
  refine jCtU_of (cc := cX11_best) (maxL := 3) (ret := (some .int)) (by decide +kernel) rfl (Nat.le_of_ble_eq_true rfl) ?_
  intro G eD eY eL E EU
  subst eD; subst eY; subst eL
  have E : jE G cX11_best RX11 w_X11_best 3 (some .int) (jrm B 7 186 Z) jRF := E
  have hx : jext Z Z := jext_rfl
  have hc : jle Z Z := jle_rfl
  show jJ G 3 0 [(0, .ref v0), (1, .int v1)] [] Z I L (jcz Z - jcz Z) (jsz Z - jsz Z)
  refine j_aload_n E dX11_best_0 0 rfl ?_
  obtain ⟨b1, eb1, kb1⟩ := sh_o hZ kv0 (j := 2) (k := 8) rfl
  have h := h b1 eb1
  refine j_getr E 11 2 rfl rfl (by decide) (by decide) (iw iT_11) rfl rfl (tw W_454) kv0 eb1 dX11_best_1 ?_
  refine j_iload_n E dX11_best_4 1 rfl ?_
  refine j_callV E [.int v1] [] (c_X8_has (gL G) (gD G) (gY G) b1 v1 Z I L _ hZ kb1 h) (gwV W_463 W_256 W_257 W_254 W_253) rfl ⟨rfl, fy_X8_has⟩ ⟨Nat.le_of_ble_eq_true rfl, Nat.le_of_ble_eq_true rfl⟩ (c := 8) rfl (by decide) kb1 rfl rfl (Nat.le_of_ble_eq_true rfl) (ju_kn hb) dX11_best_5 (fun v2 Z3 I4 L5 q6 => ?_)
  obtain ⟨rfl, r8, rfl, zr8, h⟩ := q6
  show jJ G 3 8 [(0, .ref v0), (1, .int v1)] [.int r8] Z I4 L5 (jcz Z - jcz Z) (jsz Z - jsz Z)
  refine j_if_ne E 13 dX11_best_8 (by decide) (fun c9 => ?_) (fun c9 => ?_)
  · have h := h.1 c9
    refine j_aload_n E dX11_best_13 0 rfl ?_
    refine j_iload_n E dX11_best_14 1 rfl ?_
    refine ju_callV E [.int v1] [] (c_X11_weighAlone (gL G) (gD G) (gY G) B v0 v1 Z I4 L5 _ hZ hb kv0 h) (gwV W_588 W_589 W_590 W_40 W_587) rfl ⟨rfl, fy_X11_weighAlone⟩ ⟨Nat.le_of_ble_eq_true rfl, Nat.le_of_ble_eq_true rfl⟩ (c := 11) rfl (by decide) kv0 rfl rfl (Nat.le_of_ble_eq_true rfl) (ju_f hc hb) dX11_best_15 (fun v10 Z11 I12 L13 q14 j15 => ?_)
    refine ju_next hc j15 ?_
    have hc := jle_trans hc j15
    obtain ⟨yZ11, hZ11, hbZ11, rfl, h⟩ := q14
    have hZ := hZ11
    have hx : jext Z Z11 := jext_trans hx yZ11
    have hb := hbZ11
    have k16 := (yZ11 _ _ kv0).1
    show jJ G 3 18 [(0, .ref v0), (1, .int v1)] [] Z11 I12 L13 (jcz Z11 - jcz Z) (jsz Z11 - jsz Z)
    refine j_aload_n E dX11_best_18 0 rfl ?_
    refine j_callV E [] [] (c_X11_mostPaid (gL G) (gD G) (gY G) v0 Z11 I12 L13 _ hZ k16 h) (gwV W_599 W_600 W_601 W_40 W_598) rfl ⟨rfl, fy_X11_mostPaid⟩ ⟨Nat.le_of_ble_eq_true rfl, Nat.le_of_ble_eq_true rfl⟩ (c := 11) rfl (by decide) k16 rfl rfl (Nat.le_of_ble_eq_true rfl) (ju_kn hb) dX11_best_19 (fun v17 Z18 I19 L20 q21 => ?_)
    obtain ⟨rfl, r23, rfl, h⟩ := q21
    show jJ G 3 22 [(0, .ref v0), (1, .int v1)] [.int r23] Z11 I19 L20 (jcz Z11 - jcz Z) (jsz Z11 - jsz Z)
    refine j_istore_n E 2 [(2, .int r23), (0, .ref v0), (1, .int v1)] dX11_best_22 rfl (by decide) rfl ?_
    refine j_aload_n E dX11_best_23 1 rfl ?_
    refine j_aload_n E dX11_best_24 1 rfl ?_
    obtain ⟨b24, eb24, kb24, lb24⟩ := sh_f hZ k16 (j := 13) (k := 14) (m := 21) rfl
    have h := h b24 eb24
    refine j_getr E 11 13 rfl rfl (by decide) (by decide) (iw iT_11) rfl rfl (tw W_572) k16 eb24 dX11_best_25 ?_
    refine j_iload_n E dX11_best_28 0 rfl ?_
    obtain ⟨o25, h⟩ := h
    refine j_iald E kb24 (by rw [lb24]; exact o25) dX11_best_29 ?_
    refine j_i2l E dX11_best_30 ?_
    refine j_callV E [.long ((I19 b24 r23.toNatClampNeg).toInt64)] [] (c_X11_tellOne (gL G) (gD G) (gY G) v0 ((I19 b24 r23.toNatClampNeg).toInt64) Z11 I19 L20 _ hZ k16 h) (gwV W_492 W_493 W_494 W_40 W_491) rfl ⟨rfl, fy_X11_tellOne⟩ ⟨Nat.le_of_ble_eq_true rfl, Nat.le_of_ble_eq_true rfl⟩ (c := 11) rfl (by decide) k16 rfl rfl (Nat.le_of_ble_eq_true rfl) (ju_kn hb) dX11_best_31 (fun v26 Z27 I28 L29 q30 => ?_)
    obtain ⟨rfl, rfl, h⟩ := q30
    show jJ G 3 34 [(2, .int r23), (0, .ref v0), (1, .int v1)] [] Z11 I28 L29 (jcz Z11 - jcz Z) (jsz Z11 - jsz Z)
    refine j_iload_n E dX11_best_34 0 rfl ?_
    exact ju_ireturn E EU hc hb ⟨hx, hZ, hb, _, rfl, h⟩ dX11_best_35
  · have h := h.2 c9
    refine j_iconst E (v := -1) dX11_best_11 (by decide) ?_
    exact ju_ireturn E EU hc hb ⟨hx, hZ, hb, _, rfl, h⟩ dX11_best_12
set_option maxRecDepth 100000 in
def f_X11_climbAllTo_b28 (B : Nat × Nat) (K2 : Nat → Int32 → Int32 → jZ → jI → jL → Prop) (Q : jZ → jI → jL → Prop) (v0 : Nat) (v1 : Int32) (v2 : Int32) (Z : jZ) (I : jI) (L : jL) : Prop := (∀ x1 : Int32, x1 = v2 + 1 → K2 v0 v1 x1 Z I L)
set_option maxHeartbeats 4000000 in
set_option maxRecDepth 100000 in
theorem m_X11_climbAllTo_b28 {G : jG} {B : Nat × Nat} {Z0 : jZ} {Q : jZ → jI → jL → Prop} (E : jE G cX11_climbAllTo RX11 w_X11_climbAllTo 4 none (jrm B 5 141 Z0) jRF) (EU : jEU G B Z0 (urtV B Z0 Q)) (K2 : Nat → Int32 → Int32 → jZ → jI → jL → Prop) (hK2 : ∀ (v0 : Nat) (v1 : Int32) (v2 : Int32) (Z : jZ) (I : jI) (L : jL), SH Z → jext Z0 Z → jle Z0 Z → jin B Z → jk Z v0 11 → K2 v0 v1 v2 Z I L → jJ G 4 2 [(0, .ref v0), (1, .int v1), (2, .int v2)] [] Z I L (jcz Z - jcz Z0) (jsz Z - jsz Z0)) (v0 : Nat) (v1 : Int32) (v2 : Int32) (Z : jZ) (I : jI) (L : jL) (hZ : SH Z) (hx : jext Z0 Z) (hc : jle Z0 Z) (hb : jin B Z) (kv0 : jk Z v0 11) (h : f_X11_climbAllTo_b28 B K2 Q v0 v1 v2 Z I L) : jJ G 4 28 [(0, .ref v0), (1, .int v1), (2, .int v2)] [] Z I L (jcz Z - jcz Z0) (jsz Z - jsz Z0) := by
  obtain ⟨x1, ex1⟩ : ∃ y : Int32, y = v2 + 1 := ⟨_, rfl⟩
  have h := h x1 ex1
  refine j_iinc E x1 [(2, .int x1), (0, .ref v0), (1, .int v1)] dX11_climbAllTo_28 2 rfl (by rw [ex1]; rfl) (by decide) rfl ?_
  refine j_goto E 2 dX11_climbAllTo_31 (by decide) ?_
  refine j_sub [1, 2, 0] rfl ?_
  exact hK2 v0 v1 x1 Z I L hZ hx hc hb kv0 h
set_option maxRecDepth 100000 in
def f_X11_climbAllTo_L2 (B : Nat × Nat)  (Q : jZ → jI → jL → Prop) : Nat → Nat → Int32 → Int32 → jZ → jI → jL → Prop
  | 0 => fun _ _ _ _ _ _ => False
  | n + 1 => fun v0 v1 v2 Z I L => (((I v0 4) ≤ v2 → Q Z I L) ∧ (¬ ((I v0 4) ≤ v2) → (f_X11_find v0 v2 Z I L (fun r9 I5 L6 => ((r9 = none → f_X11_climbAllTo_b28 B (f_X11_climbAllTo_L2 B Q n) Q v0 v1 v2 Z I5 L6) ∧ (∀ b10 : Nat, r9 = some b10 → (∀ b12 : Nat, jr Z b10 8 = some b12 → (f_X6_raiseOne B b12 v1 Z I5 L6 (fun Z14 I15 L16 => f_X11_climbAllTo_b28 B (f_X11_climbAllTo_L2 B Q n) Q v0 v1 v2 Z14 I15 L16)))))))))
set_option maxHeartbeats 4000000 in
set_option maxRecDepth 100000 in
theorem m_X11_climbAllTo_L2 {G : jG} {Z0 : jZ} {B : Nat × Nat} {Q : jZ → jI → jL → Prop} (E : jE G cX11_climbAllTo RX11 w_X11_climbAllTo 4 none (jrm B 5 141 Z0) jRF) (EU : jEU G B Z0 (urtV B Z0 Q))  : ∀ (n : Nat) (v0 : Nat) (v1 : Int32) (v2 : Int32) (Z : jZ) (I : jI) (L : jL), SH Z → jext Z0 Z → jle Z0 Z → jin B Z → jk Z v0 11 → f_X11_climbAllTo_L2 B  Q n v0 v1 v2 Z I L → jJ G 4 2 [(0, .ref v0), (1, .int v1), (2, .int v2)] [] Z I L (jcz Z - jcz Z0) (jsz Z - jsz Z0) := by
  intro n
  induction n with
  | zero => intro v0 v1 v2 Z I L _ _ _ _ _ h; exact h.elim
  | succ n ih =>
    intro v0 v1 v2 Z I L hZ hx hc hb kv0 h
    have h : (((I v0 4) ≤ v2 → Q Z I L) ∧ (¬ ((I v0 4) ≤ v2) → (f_X11_find v0 v2 Z I L (fun r9 I5 L6 => ((r9 = none → f_X11_climbAllTo_b28 B (f_X11_climbAllTo_L2 B Q n) Q v0 v1 v2 Z I5 L6) ∧ (∀ b10 : Nat, r9 = some b10 → (∀ b12 : Nat, jr Z b10 8 = some b12 → (f_X6_raiseOne B b12 v1 Z I5 L6 (fun Z14 I15 L16 => f_X11_climbAllTo_b28 B (f_X11_climbAllTo_L2 B Q n) Q v0 v1 v2 Z14 I15 L16))))))))) := h
    obtain ⟨K2, eK2⟩ : ∃ K : Nat → Int32 → Int32 → jZ → jI → jL → Prop, K = f_X11_climbAllTo_L2 B  Q n := ⟨_, rfl⟩
    have hK2 := ih
    clear eK2 K2
    generalize f_X11_climbAllTo_L2 B  Q n = K2 at hK2 h
    refine j_iload_n E dX11_climbAllTo_2 2 rfl ?_
    refine j_aload_n E dX11_climbAllTo_3 0 rfl ?_
    refine j_geti E 11 4 rfl rfl (by decide) (by decide) (iw iT_11) rfl rfl (tw W_431) kv0 dX11_climbAllTo_4 ?_
    refine j_icmp_ge E 34 dX11_climbAllTo_7 (by decide) (fun c2 => ?_) (fun c2 => ?_)
    · have h := h.1 c2
      exact ju_return E EU hc hb ⟨hx, hZ, hb, rfl, h⟩ dX11_climbAllTo_34
    · have h := h.2 c2
      refine j_aload_n E dX11_climbAllTo_10 0 rfl ?_
      refine j_iload_n E dX11_climbAllTo_11 2 rfl ?_
      refine j_callV E [.int v2] [] (c_X11_find (gL G) (gD G) (gY G) v0 v2 Z I L _ hZ kv0 h) (gwV W_437 W_438 W_439 W_40 W_436) rfl ⟨rfl, fy_X11_find⟩ ⟨Nat.le_of_ble_eq_true rfl, Nat.le_of_ble_eq_true rfl⟩ (c := 11) rfl (by decide) kv0 rfl rfl (Nat.le_of_ble_eq_true rfl) (ju_kn hb) dX11_climbAllTo_12 (fun v3 Z4 I5 L6 q7 => ?_)
      obtain ⟨rfl, r9, rfl, zr9, h⟩ := q7
      show jJ G 4 15 [(0, .ref v0), (1, .int v1), (2, .int v2)] (va_rf r9 :: []) Z I5 L6 (jcz Z - jcz Z0) (jsz Z - jsz Z0)
      rcases c11 : r9 with _ | b10
      · have h := h.1 c11
        refine j_rfN rfl ?_
        refine j_astore_nN E 3 [(3, .null), (0, .ref v0), (1, .int v1), (2, .int v2)] dX11_climbAllTo_15 rfl (by decide) rfl ?_
        refine j_aload_nN E dX11_climbAllTo_16 0 rfl ?_
        refine j_ifnullN E 28 dX11_climbAllTo_17 (by decide) ?_
        refine j_sub [1, 2, 3] rfl ?_
        exact m_X11_climbAllTo_b28 E EU K2 hK2 v0 v1 v2 Z I5 L6 hZ hx hc hb kv0 h
      · have h := h.2 b10 c11
        have kb10 := zr9 b10 c11
        refine j_rfS rfl ?_
        refine j_astore_n E 3 [(3, .ref b10), (0, .ref v0), (1, .int v1), (2, .int v2)] dX11_climbAllTo_15 rfl (by decide) rfl ?_
        refine j_aload_n E dX11_climbAllTo_16 0 rfl ?_
        refine j_ifnull E dX11_climbAllTo_17 ?_
        refine j_aload_n E dX11_climbAllTo_20 0 rfl ?_
        obtain ⟨b12, eb12, kb12⟩ := sh_o hZ kb10 (j := 8) (k := 6) rfl
        have h := h b12 eb12
        refine j_getrN E 5 8 rfl rfl (by decide) (by decide) (iw iT_5) rfl rfl (nw_5_8_X11_263) kb10 eb12 dX11_climbAllTo_21 ?_
        refine j_iload_n E dX11_climbAllTo_24 2 rfl ?_
        refine ju_callV E [.int v1] [] (c_X6_raiseOne (gL G) (gD G) (gY G) B b12 v1 Z I5 L6 _ hZ hb kb12 h) (gwV W_602 W_319 W_320 W_33 W_317) rfl ⟨rfl, fy_X6_raiseOne⟩ ⟨Nat.le_of_ble_eq_true rfl, Nat.le_of_ble_eq_true rfl⟩ (c := 6) rfl (by decide) kb12 rfl rfl (Nat.le_of_ble_eq_true rfl) (ju_f hc hb) dX11_climbAllTo_25 (fun v13 Z14 I15 L16 q17 j18 => ?_)
        refine ju_next hc j18 ?_
        have hc := jle_trans hc j18
        obtain ⟨yZ14, hZ14, hbZ14, rfl, h⟩ := q17
        have hZ := hZ14
        have hx : jext Z0 Z14 := jext_trans hx yZ14
        have hb := hbZ14
        have k19 := (yZ14 _ _ kv0).1
        have k20 := (yZ14 _ _ kb10).1
        show jJ G 4 28 [(3, .ref b10), (0, .ref v0), (1, .int v1), (2, .int v2)] [] Z14 I15 L16 (jcz Z14 - jcz Z0) (jsz Z14 - jsz Z0)
        refine j_sub [1, 2, 3] rfl ?_
        exact m_X11_climbAllTo_b28 E EU K2 hK2 v0 v1 v2 Z14 I15 L16 hZ hx hc hb k19 h
set_option maxRecDepth 100000 in
def f_X11_climbAllTo (B : Nat × Nat) (v0 : Nat) (v1 : Int32) (Z : jZ) (I : jI) (L : jL) (Q : jZ → jI → jL → Prop) : Prop := (∃ m2 : Nat, f_X11_climbAllTo_L2 B  Q m2 v0 v1 (0 : Int32) Z I L)
set_option maxHeartbeats 4000000 in
set_option maxRecDepth 100000 in
theorem c_X11_climbAllTo (l : Launch) (D : va_G) (cy : jC) (B : Nat × Nat) (v0 : Nat) (v1 : Int32) (Z : jZ) (I : jI) (L : jL) (Q : jZ → jI → jL → Prop) (hZ : SH Z) (hb : jin B Z) (kv0 : jk Z v0 11) (h : f_X11_climbAllTo B v0 v1 Z I L Q) : jCtU l yX11_climbAllTo w_X11_climbAllTo B 5 141 D cy [.ref v0, .int v1] Z I L (urtV B Z Q) := by
  refine jCtU_of (cc := cX11_climbAllTo) (maxL := 4) (ret := none) (by decide +kernel) rfl (Nat.le_of_ble_eq_true rfl) ?_
  intro G eD eY eL E EU
  subst eD; subst eY; subst eL
  have E : jE G cX11_climbAllTo RX11 w_X11_climbAllTo 4 none (jrm B 5 141 Z) jRF := E
  have hx : jext Z Z := jext_rfl
  have hc : jle Z Z := jle_rfl
  show jJ G 4 0 [(0, .ref v0), (1, .int v1)] [] Z I L (jcz Z - jcz Z) (jsz Z - jsz Z)
  refine j_iconst E (v := 0) dX11_climbAllTo_0 (by decide) ?_
  refine j_istore_n E 2 [(2, .int (0 : Int32)), (0, .ref v0), (1, .int v1)] dX11_climbAllTo_1 rfl (by decide) rfl ?_
  obtain ⟨n21, h⟩ := h
  refine j_sub [1, 2, 0] rfl ?_
  exact m_X11_climbAllTo_L2 E EU  n21 v0 v1 (0 : Int32) Z I L hZ hx hc hb kv0 h
set_option maxRecDepth 100000 in
def f_X11_measureAllAt_b33 (K2 : Nat → Int32 → Int32 → jI → jL → Prop) (Z : jZ) (Q : jI → jL → Prop) (v0 : Nat) (v1 : Int32) (v2 : Int32) (I : jI) (L : jL) : Prop := (∀ x1 : Int32, x1 = v2 + 1 → K2 v0 v1 x1 I L)
set_option maxHeartbeats 4000000 in
set_option maxRecDepth 100000 in
theorem m_X11_measureAllAt_b33 {G : jG} {Z : jZ} {Q : jI → jL → Prop} (E : jE G cX11_measureAllAt RX11 w_X11_measureAllAt 4 none { frames := 5, cells := 0, slots := 0, locals := 125 } (rtV Z Q)) (hZ : SH Z) (K2 : Nat → Int32 → Int32 → jI → jL → Prop) (hK2 : ∀ (v0 : Nat) (v1 : Int32) (v2 : Int32) (I : jI) (L : jL), jk Z v0 11 → K2 v0 v1 v2 I L → jJ G 4 2 [(0, .ref v0), (1, .int v1), (2, .int v2)] [] Z I L 0 0) (v0 : Nat) (v1 : Int32) (v2 : Int32) (I : jI) (L : jL) (kv0 : jk Z v0 11) (h : f_X11_measureAllAt_b33 K2 Z Q v0 v1 v2 I L) : jJ G 4 33 [(0, .ref v0), (1, .int v1), (2, .int v2)] [] Z I L 0 0 := by
  obtain ⟨x1, ex1⟩ : ∃ y : Int32, y = v2 + 1 := ⟨_, rfl⟩
  have h := h x1 ex1
  refine j_iinc E x1 [(2, .int x1), (0, .ref v0), (1, .int v1)] dX11_measureAllAt_33 2 rfl (by rw [ex1]; rfl) (by decide) rfl ?_
  refine j_goto E 2 dX11_measureAllAt_36 (by decide) ?_
  refine j_sub [1, 2, 0] rfl ?_
  exact hK2 v0 v1 x1 I L kv0 h
set_option maxRecDepth 100000 in
def f_X11_measureAllAt_L2  (Z : jZ) (Q : jI → jL → Prop) : Nat → Nat → Int32 → Int32 → jI → jL → Prop
  | 0 => fun _ _ _ _ _ => False
  | n + 1 => fun v0 v1 v2 I L => (((I v0 4) ≤ v2 → Q I L) ∧ (¬ ((I v0 4) ≤ v2) → (f_X11_find v0 v2 Z I L (fun r9 I5 L6 => ((r9 = none → f_X11_measureAllAt_b33 (f_X11_measureAllAt_L2 Z Q n) Z Q v0 v1 v2 I5 L6) ∧ (∀ b10 : Nat, r9 = some b10 → (∀ b12 : Nat, jr Z b10 8 = some b12 → (f_X6_measure b12 (v1 + (1 : Int32)) (v1 + (3 : Int32)) Z I5 L6 (fun I15 L16 => f_X11_measureAllAt_b33 (f_X11_measureAllAt_L2 Z Q n) Z Q v0 v1 v2 I15 L16)))))))))
set_option maxHeartbeats 4000000 in
set_option maxRecDepth 100000 in
theorem m_X11_measureAllAt_L2 {G : jG} {Z : jZ} {Q : jI → jL → Prop} (E : jE G cX11_measureAllAt RX11 w_X11_measureAllAt 4 none { frames := 5, cells := 0, slots := 0, locals := 125 } (rtV Z Q)) (hZ : SH Z)  : ∀ (n : Nat) (v0 : Nat) (v1 : Int32) (v2 : Int32) (I : jI) (L : jL), jk Z v0 11 → f_X11_measureAllAt_L2  Z Q n v0 v1 v2 I L → jJ G 4 2 [(0, .ref v0), (1, .int v1), (2, .int v2)] [] Z I L 0 0 := by
  intro n
  induction n with
  | zero => intro v0 v1 v2 I L _ h; exact h.elim
  | succ n ih =>
    intro v0 v1 v2 I L kv0 h
    have h : (((I v0 4) ≤ v2 → Q I L) ∧ (¬ ((I v0 4) ≤ v2) → (f_X11_find v0 v2 Z I L (fun r9 I5 L6 => ((r9 = none → f_X11_measureAllAt_b33 (f_X11_measureAllAt_L2 Z Q n) Z Q v0 v1 v2 I5 L6) ∧ (∀ b10 : Nat, r9 = some b10 → (∀ b12 : Nat, jr Z b10 8 = some b12 → (f_X6_measure b12 (v1 + (1 : Int32)) (v1 + (3 : Int32)) Z I5 L6 (fun I15 L16 => f_X11_measureAllAt_b33 (f_X11_measureAllAt_L2 Z Q n) Z Q v0 v1 v2 I15 L16))))))))) := h
    obtain ⟨K2, eK2⟩ : ∃ K : Nat → Int32 → Int32 → jI → jL → Prop, K = f_X11_measureAllAt_L2  Z Q n := ⟨_, rfl⟩
    have hK2 := ih
    clear eK2 K2
    generalize f_X11_measureAllAt_L2  Z Q n = K2 at hK2 h
    refine j_iload_n E dX11_measureAllAt_2 2 rfl ?_
    refine j_aload_n E dX11_measureAllAt_3 0 rfl ?_
    refine j_geti E 11 4 rfl rfl (by decide) (by decide) (iw iT_11) rfl rfl (tw W_431) kv0 dX11_measureAllAt_4 ?_
    refine j_icmp_ge E 39 dX11_measureAllAt_7 (by decide) (fun c2 => ?_) (fun c2 => ?_)
    · have h := h.1 c2
      exact j_return E ⟨rfl, rfl, h⟩ (Nat.zero_le _) (Nat.zero_le _) dX11_measureAllAt_39
    · have h := h.2 c2
      refine j_aload_n E dX11_measureAllAt_10 0 rfl ?_
      refine j_iload_n E dX11_measureAllAt_11 2 rfl ?_
      refine j_callV E [.int v2] [] (c_X11_find (gL G) (gD G) (gY G) v0 v2 Z I L _ hZ kv0 h) (gwV W_437 W_438 W_439 W_40 W_436) rfl ⟨rfl, fy_X11_find⟩ ⟨by decide, by decide⟩ (c := 11) rfl (by decide) kv0 rfl rfl (Nat.le_of_ble_eq_true rfl) ⟨Nat.zero_le _, Nat.zero_le _⟩ dX11_measureAllAt_12 (fun v3 Z4 I5 L6 q7 => ?_)
      obtain ⟨rfl, r9, rfl, zr9, h⟩ := q7
      show jJ G 4 15 [(0, .ref v0), (1, .int v1), (2, .int v2)] (va_rf r9 :: []) Z I5 L6 0 0
      rcases c11 : r9 with _ | b10
      · have h := h.1 c11
        refine j_rfN rfl ?_
        refine j_astore_nN E 3 [(3, .null), (0, .ref v0), (1, .int v1), (2, .int v2)] dX11_measureAllAt_15 rfl (by decide) rfl ?_
        refine j_aload_nN E dX11_measureAllAt_16 0 rfl ?_
        refine j_ifnullN E 33 dX11_measureAllAt_17 (by decide) ?_
        refine j_sub [1, 2, 3] rfl ?_
        exact m_X11_measureAllAt_b33 E hZ K2 hK2 v0 v1 v2 I5 L6 kv0 h
      · have h := h.2 b10 c11
        have kb10 := zr9 b10 c11
        refine j_rfS rfl ?_
        refine j_astore_n E 3 [(3, .ref b10), (0, .ref v0), (1, .int v1), (2, .int v2)] dX11_measureAllAt_15 rfl (by decide) rfl ?_
        refine j_aload_n E dX11_measureAllAt_16 0 rfl ?_
        refine j_ifnull E dX11_measureAllAt_17 ?_
        refine j_aload_n E dX11_measureAllAt_20 0 rfl ?_
        obtain ⟨b12, eb12, kb12⟩ := sh_o hZ kb10 (j := 8) (k := 6) rfl
        have h := h b12 eb12
        refine j_getrN E 5 8 rfl rfl (by decide) (by decide) (iw iT_5) rfl rfl (nw_5_8_X11_263) kb10 eb12 dX11_measureAllAt_21 ?_
        refine j_iload_n E dX11_measureAllAt_24 2 rfl ?_
        refine j_iconst E (v := 1) dX11_measureAllAt_25 (by decide) ?_
        refine j_iadd E dX11_measureAllAt_26 ?_
        refine j_iload_n E dX11_measureAllAt_27 2 rfl ?_
        refine j_iconst E (v := 3) dX11_measureAllAt_28 (by decide) ?_
        refine j_iadd E dX11_measureAllAt_29 ?_
        refine j_callV E [.int (v1 + (1 : Int32)), .int (v1 + (3 : Int32))] [] (c_X6_measure (gL G) (gD G) (gY G) b12 (v1 + (1 : Int32)) (v1 + (3 : Int32)) Z I5 L6 _ hZ kb12 h) (gwV W_603 W_307 W_308 W_33 W_305) rfl ⟨rfl, fy_X6_measure⟩ ⟨by decide, by decide⟩ (c := 6) rfl (by decide) kb12 rfl rfl (Nat.le_of_ble_eq_true rfl) ⟨Nat.zero_le _, Nat.zero_le _⟩ dX11_measureAllAt_30 (fun v13 Z14 I15 L16 q17 => ?_)
        obtain ⟨rfl, rfl, h⟩ := q17
        show jJ G 4 33 [(3, .ref b10), (0, .ref v0), (1, .int v1), (2, .int v2)] [] Z I15 L16 0 0
        refine j_sub [1, 2, 3] rfl ?_
        exact m_X11_measureAllAt_b33 E hZ K2 hK2 v0 v1 v2 I15 L16 kv0 h
set_option maxRecDepth 100000 in
def f_X11_measureAllAt (v0 : Nat) (v1 : Int32) (Z : jZ) (I : jI) (L : jL) (Q : jI → jL → Prop) : Prop := (∃ m2 : Nat, f_X11_measureAllAt_L2  Z Q m2 v0 v1 (0 : Int32) I L)
set_option maxHeartbeats 4000000 in
set_option maxRecDepth 100000 in
theorem c_X11_measureAllAt (l : Launch) (D : va_G) (cy : jC) (v0 : Nat) (v1 : Int32) (Z : jZ) (I : jI) (L : jL) (Q : jI → jL → Prop) (hZ : SH Z) (kv0 : jk Z v0 11) (h : f_X11_measureAllAt v0 v1 Z I L Q) : jCt l yX11_measureAllAt w_X11_measureAllAt { frames := 5, cells := 0, slots := 0, locals := 125 } D cy [.ref v0, .int v1] Z I L (rtV Z Q) := by
  refine jCt_of (cc := cX11_measureAllAt) (maxL := 4) (ret := none) (by decide +kernel) rfl (Nat.le_of_ble_eq_true rfl) ?_
  intro G eD eY eL E
  subst eD; subst eY; subst eL
  have E : jE G cX11_measureAllAt RX11 w_X11_measureAllAt 4 none { frames := 5, cells := 0, slots := 0, locals := 125 } (rtV Z Q) := E
  show jJ G 4 0 [(0, .ref v0), (1, .int v1)] [] Z I L 0 0
  refine j_iconst E (v := 0) dX11_measureAllAt_0 (by decide) ?_
  refine j_istore_n E 2 [(2, .int (0 : Int32)), (0, .ref v0), (1, .int v1)] dX11_measureAllAt_1 rfl (by decide) rfl ?_
  obtain ⟨n19, h⟩ := h
  refine j_sub [1, 2, 0] rfl ?_
  exact m_X11_measureAllAt_L2 E hZ  n19 v0 v1 (0 : Int32) I L kv0 h
set_option maxRecDepth 100000 in
def f_X11_haggle_b131 (B : Nat × Nat) (K53 : Nat → Int32 → Int32 → jZ → jI → jL → Prop) (Q : Int32 → jZ → jI → jL → Prop) (v0 : Nat) (v1 : Int32) (v2 : Int32) (Z : jZ) (I : jI) (L : jL) : Prop := (∀ x1 : Int32, x1 = v2 + 1 → K53 v0 v1 x1 Z I L)
set_option maxHeartbeats 4000000 in
set_option maxRecDepth 100000 in
theorem m_X11_haggle_b131 {G : jG} {B : Nat × Nat} {Z0 : jZ} {Q : Int32 → jZ → jI → jL → Prop} (E : jE G cX11_haggle RX11 w_X11_haggle 5 (some .boolean) (jrm B 6 164 Z0) jRF) (EU : jEU G B Z0 (urtZ B Z0 Q)) (K53 : Nat → Int32 → Int32 → jZ → jI → jL → Prop) (hK53 : ∀ (v0 : Nat) (v1 : Int32) (v2 : Int32) (Z : jZ) (I : jI) (L : jL), SH Z → jext Z0 Z → jle Z0 Z → jin B Z → jk Z v0 11 → K53 v0 v1 v2 Z I L → jJ G 5 53 [(0, .ref v0), (1, .int v1), (2, .int v2)] [] Z I L (jcz Z - jcz Z0) (jsz Z - jsz Z0)) (v0 : Nat) (v1 : Int32) (v2 : Int32) (Z : jZ) (I : jI) (L : jL) (hZ : SH Z) (hx : jext Z0 Z) (hc : jle Z0 Z) (hb : jin B Z) (kv0 : jk Z v0 11) (h : f_X11_haggle_b131 B K53 Q v0 v1 v2 Z I L) : jJ G 5 131 [(0, .ref v0), (1, .int v1), (2, .int v2)] [] Z I L (jcz Z - jcz Z0) (jsz Z - jsz Z0) := by
  obtain ⟨x1, ex1⟩ : ∃ y : Int32, y = v2 + 1 := ⟨_, rfl⟩
  have h := h x1 ex1
  refine j_iinc E x1 [(2, .int x1), (0, .ref v0), (1, .int v1)] dX11_haggle_131 2 rfl (by rw [ex1]; rfl) (by decide) rfl ?_
  refine j_goto E 53 dX11_haggle_134 (by decide) ?_
  refine j_sub [1, 2, 0] rfl ?_
  exact hK53 v0 v1 x1 Z I L hZ hx hc hb kv0 h
set_option maxRecDepth 100000 in
def f_X11_haggle_L53 (B : Nat × Nat)  (Q : Int32 → jZ → jI → jL → Prop) : Nat → Nat → Int32 → Int32 → jZ → jI → jL → Prop
  | 0 => fun _ _ _ _ _ _ => False
  | n + 1 => fun v0 v1 v2 Z I L => (∀ b2 : Nat, jr Z v0 2 = some b2 → (((I b2 9) ≤ v2 → ((v1 = 0 ∨ v1 = 1) ∧ Q v1 Z I L)) ∧ (¬ ((I b2 9) ≤ v2) → (f_X11_climbAllTo B v0 v2 Z I L (fun Z6 I7 L8 => (f_X11_weigh v0 v2 Z6 I7 L8 (fun I14 L15 => (f_X11_mostPaid v0 Z6 I14 L15 (fun r24 I20 L21 => (∀ b25 : Nat, jr Z6 v0 2 = some b25 → (∀ b26 : Nat, jr Z6 b25 2 = some b26 → (vp_in v2 24 ∧ (∀ x28 : Int32, x28 = (I20 b26 v2.toNatClampNeg) → (f_X11_isAsked x28 Z6 I20 L21 (fun r35 I31 L32 => ((r35 = 0 → f_X11_haggle_b131 B (f_X11_haggle_L53 B Q n) Q v0 v1 v2 Z6 I31 L32) ∧ (¬ (r35 = 0) → (∀ b37 : Nat, jr Z6 v0 13 = some b37 → (vp_in r24 21 ∧ (∀ b39 : Nat, jr Z6 v0 13 = some b39 → (vp_in x28 21 ∧ (((I31 b37 r24.toNatClampNeg) ≤ (I31 b39 x28.toNatClampNeg) → f_X11_haggle_b131 B (f_X11_haggle_L53 B Q n) Q v0 v1 v2 Z6 I31 L32) ∧ (¬ ((I31 b37 r24.toNatClampNeg) ≤ (I31 b39 x28.toNatClampNeg)) → (∀ b42 : Nat, jr Z6 v0 2 = some b42 → (∀ b43 : Nat, jr Z6 b42 2 = some b43 → (vp_in v2 24 ∧ (∀ I45 : jI, I45 = jpI I31 b43 v2.toNatClampNeg r24 → (f_X11_measureAllAt v0 v2 Z6 I45 L32 (fun I48 L49 => f_X11_haggle_b131 B (f_X11_haggle_L53 B Q n) Q v0 (1 : Int32) v2 Z6 I48 L49)))))))))))))))))))))))))))))
set_option maxHeartbeats 4000000 in
set_option maxRecDepth 100000 in
theorem m_X11_haggle_L53 {G : jG} {Z0 : jZ} {B : Nat × Nat} {Q : Int32 → jZ → jI → jL → Prop} (E : jE G cX11_haggle RX11 w_X11_haggle 5 (some .boolean) (jrm B 6 164 Z0) jRF) (EU : jEU G B Z0 (urtZ B Z0 Q))  : ∀ (n : Nat) (v0 : Nat) (v1 : Int32) (v2 : Int32) (Z : jZ) (I : jI) (L : jL), SH Z → jext Z0 Z → jle Z0 Z → jin B Z → jk Z v0 11 → f_X11_haggle_L53 B  Q n v0 v1 v2 Z I L → jJ G 5 53 [(0, .ref v0), (1, .int v1), (2, .int v2)] [] Z I L (jcz Z - jcz Z0) (jsz Z - jsz Z0) := by
  intro n
  induction n with
  | zero => intro v0 v1 v2 Z I L _ _ _ _ _ h; exact h.elim
  | succ n ih =>
    intro v0 v1 v2 Z I L hZ hx hc hb kv0 h
    have h : (∀ b2 : Nat, jr Z v0 2 = some b2 → (((I b2 9) ≤ v2 → ((v1 = 0 ∨ v1 = 1) ∧ Q v1 Z I L)) ∧ (¬ ((I b2 9) ≤ v2) → (f_X11_climbAllTo B v0 v2 Z I L (fun Z6 I7 L8 => (f_X11_weigh v0 v2 Z6 I7 L8 (fun I14 L15 => (f_X11_mostPaid v0 Z6 I14 L15 (fun r24 I20 L21 => (∀ b25 : Nat, jr Z6 v0 2 = some b25 → (∀ b26 : Nat, jr Z6 b25 2 = some b26 → (vp_in v2 24 ∧ (∀ x28 : Int32, x28 = (I20 b26 v2.toNatClampNeg) → (f_X11_isAsked x28 Z6 I20 L21 (fun r35 I31 L32 => ((r35 = 0 → f_X11_haggle_b131 B (f_X11_haggle_L53 B Q n) Q v0 v1 v2 Z6 I31 L32) ∧ (¬ (r35 = 0) → (∀ b37 : Nat, jr Z6 v0 13 = some b37 → (vp_in r24 21 ∧ (∀ b39 : Nat, jr Z6 v0 13 = some b39 → (vp_in x28 21 ∧ (((I31 b37 r24.toNatClampNeg) ≤ (I31 b39 x28.toNatClampNeg) → f_X11_haggle_b131 B (f_X11_haggle_L53 B Q n) Q v0 v1 v2 Z6 I31 L32) ∧ (¬ ((I31 b37 r24.toNatClampNeg) ≤ (I31 b39 x28.toNatClampNeg)) → (∀ b42 : Nat, jr Z6 v0 2 = some b42 → (∀ b43 : Nat, jr Z6 b42 2 = some b43 → (vp_in v2 24 ∧ (∀ I45 : jI, I45 = jpI I31 b43 v2.toNatClampNeg r24 → (f_X11_measureAllAt v0 v2 Z6 I45 L32 (fun I48 L49 => f_X11_haggle_b131 B (f_X11_haggle_L53 B Q n) Q v0 (1 : Int32) v2 Z6 I48 L49))))))))))))))))))))))))))))) := h
    obtain ⟨K53, eK53⟩ : ∃ K : Nat → Int32 → Int32 → jZ → jI → jL → Prop, K = f_X11_haggle_L53 B  Q n := ⟨_, rfl⟩
    have hK53 := ih
    clear eK53 K53
    generalize f_X11_haggle_L53 B  Q n = K53 at hK53 h
    refine j_iload_n E dX11_haggle_53 2 rfl ?_
    refine j_aload_n E dX11_haggle_54 0 rfl ?_
    obtain ⟨b2, eb2, kb2⟩ := sh_o hZ kv0 (j := 2) (k := 8) rfl
    have h := h b2 eb2
    refine j_getr E 11 2 rfl rfl (by decide) (by decide) (iw iT_11) rfl rfl (tw W_454) kv0 eb2 dX11_haggle_55 ?_
    refine j_getiN E 8 9 rfl rfl (by decide) (by decide) (iw iT_8) rfl rfl (nw_8_9_X11_172) kb2 dX11_haggle_58 ?_
    refine j_icmp_ge E 137 dX11_haggle_61 (by decide) (fun c3 => ?_) (fun c3 => ?_)
    · have h := h.1 c3
      refine j_iload_n E dX11_haggle_137 1 rfl ?_
      obtain ⟨o4, h⟩ := h
      exact ju_zreturn E EU hc hb o4 ⟨hx, hZ, hb, _, rfl, o4, h⟩ dX11_haggle_138
    · have h := h.2 c3
      refine j_aload_n E dX11_haggle_64 0 rfl ?_
      refine j_iload_n E dX11_haggle_65 2 rfl ?_
      refine ju_callV E [.int v2] [] (c_X11_climbAllTo (gL G) (gD G) (gY G) B v0 v2 Z I L _ hZ hb kv0 h) (gwV W_605 W_606 W_607 W_40 W_604) rfl ⟨rfl, fy_X11_climbAllTo⟩ ⟨Nat.le_of_ble_eq_true rfl, Nat.le_of_ble_eq_true rfl⟩ (c := 11) rfl (by decide) kv0 rfl rfl (Nat.le_of_ble_eq_true rfl) (ju_f hc hb) dX11_haggle_66 (fun v5 Z6 I7 L8 q9 j10 => ?_)
      refine ju_next hc j10 ?_
      have hc := jle_trans hc j10
      obtain ⟨yZ6, hZ6, hbZ6, rfl, h⟩ := q9
      have hZ := hZ6
      have hx : jext Z0 Z6 := jext_trans hx yZ6
      have hb := hbZ6
      have k11 := (yZ6 _ _ kv0).1
      show jJ G 5 69 [(0, .ref v0), (1, .int v1), (2, .int v2)] [] Z6 I7 L8 (jcz Z6 - jcz Z0) (jsz Z6 - jsz Z0)
      refine j_aload_n E dX11_haggle_69 0 rfl ?_
      refine j_iload_n E dX11_haggle_70 2 rfl ?_
      refine j_callV E [.int v2] [] (c_X11_weigh (gL G) (gD G) (gY G) v0 v2 Z6 I7 L8 _ hZ k11 h) (gwV W_579 W_580 W_581 W_40 W_578) rfl ⟨rfl, fy_X11_weigh⟩ ⟨Nat.le_of_ble_eq_true rfl, Nat.le_of_ble_eq_true rfl⟩ (c := 11) rfl (by decide) k11 rfl rfl (Nat.le_of_ble_eq_true rfl) (ju_kn hb) dX11_haggle_71 (fun v12 Z13 I14 L15 q16 => ?_)
      obtain ⟨rfl, rfl, h⟩ := q16
      show jJ G 5 74 [(0, .ref v0), (1, .int v1), (2, .int v2)] [] Z6 I14 L15 (jcz Z6 - jcz Z0) (jsz Z6 - jsz Z0)
      refine j_aload_n E dX11_haggle_74 0 rfl ?_
      refine j_callV E [] [] (c_X11_mostPaid (gL G) (gD G) (gY G) v0 Z6 I14 L15 _ hZ k11 h) (gwV W_599 W_600 W_601 W_40 W_598) rfl ⟨rfl, fy_X11_mostPaid⟩ ⟨Nat.le_of_ble_eq_true rfl, Nat.le_of_ble_eq_true rfl⟩ (c := 11) rfl (by decide) k11 rfl rfl (Nat.le_of_ble_eq_true rfl) (ju_kn hb) dX11_haggle_75 (fun v18 Z19 I20 L21 q22 => ?_)
      obtain ⟨rfl, r24, rfl, h⟩ := q22
      show jJ G 5 78 [(0, .ref v0), (1, .int v1), (2, .int v2)] [.int r24] Z6 I20 L21 (jcz Z6 - jcz Z0) (jsz Z6 - jsz Z0)
      refine j_istore_n E 3 [(3, .int r24), (0, .ref v0), (1, .int v1), (2, .int v2)] dX11_haggle_78 rfl (by decide) rfl ?_
      refine j_aload_n E dX11_haggle_79 1 rfl ?_
      obtain ⟨b25, eb25, kb25⟩ := sh_o hZ k11 (j := 2) (k := 8) rfl
      have h := h b25 eb25
      refine j_getr E 11 2 rfl rfl (by decide) (by decide) (iw iT_11) rfl rfl (tw W_454) k11 eb25 dX11_haggle_80 ?_
      obtain ⟨b26, eb26, kb26, lb26⟩ := sh_f hZ kb25 (j := 2) (k := 14) (m := 24) rfl
      have h := h b26 eb26
      refine j_getrN E 8 2 rfl rfl (by decide) (by decide) (iw iT_8) rfl rfl (nw_8_2_X11_154) kb25 eb26 dX11_haggle_83 ?_
      refine j_iload_n E dX11_haggle_86 3 rfl ?_
      obtain ⟨o27, h⟩ := h
      refine j_iald E kb26 (by rw [lb26]; exact o27) dX11_haggle_87 ?_
      refine j_topi (fun x28 ex28 => ?_)
      have h := h x28 ex28
      refine j_istore E 4 [(4, .int x28), (3, .int r24), (0, .ref v0), (1, .int v1), (2, .int v2)] dX11_haggle_88 (by decide) rfl ?_
      refine j_iload E dX11_haggle_90 0 rfl ?_
      refine j_callS E [.int x28] [] (c_X11_isAsked (gL G) (gD G) (gY G) x28 Z6 I20 L21 _ hZ  h) (gwS W_597 W_356 W_40 W_355) rfl fy_X11_isAsked ⟨Nat.le_of_ble_eq_true rfl, Nat.le_of_ble_eq_true rfl⟩ rfl rfl (Nat.le_of_ble_eq_true rfl) (ju_kn hb) dX11_haggle_92 (fun v29 Z30 I31 L32 q33 => ?_)
      obtain ⟨rfl, r35, rfl, zr35, h⟩ := q33
      show jJ G 5 95 [(4, .int x28), (3, .int r24), (0, .ref v0), (1, .int v1), (2, .int v2)] [.int r35] Z6 I31 L32 (jcz Z6 - jcz Z0) (jsz Z6 - jsz Z0)
      refine j_if_eq E 131 dX11_haggle_95 (by decide) (fun c36 => ?_) (fun c36 => ?_)
      · have h := h.1 c36
        refine j_sub [2, 3, 4] rfl ?_
        exact m_X11_haggle_b131 E EU K53 hK53 v0 v1 v2 Z6 I31 L32 hZ hx hc hb k11 h
      · have h := h.2 c36
        refine j_aload_n E dX11_haggle_98 2 rfl ?_
        obtain ⟨b37, eb37, kb37, lb37⟩ := sh_f hZ k11 (j := 13) (k := 14) (m := 21) rfl
        have h := h b37 eb37
        refine j_getr E 11 13 rfl rfl (by decide) (by decide) (iw iT_11) rfl rfl (tw W_572) k11 eb37 dX11_haggle_99 ?_
        refine j_iload_n E dX11_haggle_102 1 rfl ?_
        obtain ⟨o38, h⟩ := h
        refine j_iald E kb37 (by rw [lb37]; exact o38) dX11_haggle_103 ?_
        refine j_aload_n E dX11_haggle_104 2 rfl ?_
        obtain ⟨b39, eb39, kb39, lb39⟩ := sh_f hZ k11 (j := 13) (k := 14) (m := 21) rfl
        have h := h b39 eb39
        refine j_getr E 11 13 rfl rfl (by decide) (by decide) (iw iT_11) rfl rfl (tw W_572) k11 eb39 dX11_haggle_105 ?_
        refine j_iload E dX11_haggle_108 0 rfl ?_
        obtain ⟨o40, h⟩ := h
        refine j_iald E kb39 (by rw [lb39]; exact o40) dX11_haggle_110 ?_
        refine j_icmp_le E 131 dX11_haggle_111 (by decide) (fun c41 => ?_) (fun c41 => ?_)
        · have h := h.1 c41
          refine j_sub [2, 3, 4] rfl ?_
          exact m_X11_haggle_b131 E EU K53 hK53 v0 v1 v2 Z6 I31 L32 hZ hx hc hb k11 h
        · have h := h.2 c41
          refine j_iconst E (v := 1) dX11_haggle_114 (by decide) ?_
          refine j_istore_n E 1 [(1, .int (1 : Int32)), (4, .int x28), (3, .int r24), (0, .ref v0), (2, .int v2)] dX11_haggle_115 rfl (by decide) rfl ?_
          refine j_aload_n E dX11_haggle_116 3 rfl ?_
          obtain ⟨b42, eb42, kb42⟩ := sh_o hZ k11 (j := 2) (k := 8) rfl
          have h := h b42 eb42
          refine j_getr E 11 2 rfl rfl (by decide) (by decide) (iw iT_11) rfl rfl (tw W_454) k11 eb42 dX11_haggle_117 ?_
          obtain ⟨b43, eb43, kb43, lb43⟩ := sh_f hZ kb42 (j := 2) (k := 14) (m := 24) rfl
          have h := h b43 eb43
          refine j_getrN E 8 2 rfl rfl (by decide) (by decide) (iw iT_8) rfl rfl (nw_8_2_X11_154) kb42 eb43 dX11_haggle_120 ?_
          refine j_iload_n E dX11_haggle_123 4 rfl ?_
          refine j_iload_n E dX11_haggle_124 2 rfl ?_
          obtain ⟨o44, h⟩ := h
          refine j_iast E kb43 (by rw [lb43]; exact o44) dX11_haggle_125 ?_
          refine j_nmI (fun I45 eI45 => ?_)
          have h := h I45 eI45
          refine j_aload_n E dX11_haggle_126 3 rfl ?_
          refine j_iload_n E dX11_haggle_127 4 rfl ?_
          refine j_callV E [.int v2] [] (c_X11_measureAllAt (gL G) (gD G) (gY G) v0 v2 Z6 I45 L32 _ hZ k11 h) (gwV W_609 W_610 W_611 W_40 W_608) rfl ⟨rfl, fy_X11_measureAllAt⟩ ⟨Nat.le_of_ble_eq_true rfl, Nat.le_of_ble_eq_true rfl⟩ (c := 11) rfl (by decide) k11 rfl rfl (Nat.le_of_ble_eq_true rfl) (ju_kn hb) dX11_haggle_128 (fun v46 Z47 I48 L49 q50 => ?_)
          obtain ⟨rfl, rfl, h⟩ := q50
          show jJ G 5 131 [(1, .int (1 : Int32)), (4, .int x28), (3, .int r24), (0, .ref v0), (2, .int v2)] [] Z6 I48 L49 (jcz Z6 - jcz Z0) (jsz Z6 - jsz Z0)
          refine j_sub [3, 0, 4] rfl ?_
          exact m_X11_haggle_b131 E EU K53 hK53 v0 (1 : Int32) v2 Z6 I48 L49 hZ hx hc hb k11 h
set_option maxRecDepth 100000 in
def f_X11_haggle_b45 (B : Nat × Nat) (K4 : Nat → Int32 → Int32 → jZ → jI → jL → Prop) (Q : Int32 → jZ → jI → jL → Prop) (v0 : Nat) (v1 : Int32) (v2 : Int32) (Z : jZ) (I : jI) (L : jL) : Prop := (∀ x52 : Int32, x52 = v2 + 1 → K4 v0 v1 x52 Z I L)
set_option maxHeartbeats 4000000 in
set_option maxRecDepth 100000 in
theorem m_X11_haggle_b45 {G : jG} {B : Nat × Nat} {Z0 : jZ} {Q : Int32 → jZ → jI → jL → Prop} (E : jE G cX11_haggle RX11 w_X11_haggle 5 (some .boolean) (jrm B 6 164 Z0) jRF) (EU : jEU G B Z0 (urtZ B Z0 Q)) (K4 : Nat → Int32 → Int32 → jZ → jI → jL → Prop) (hK4 : ∀ (v0 : Nat) (v1 : Int32) (v2 : Int32) (Z : jZ) (I : jI) (L : jL), SH Z → jext Z0 Z → jle Z0 Z → jin B Z → jk Z v0 11 → K4 v0 v1 v2 Z I L → jJ G 5 4 [(0, .ref v0), (1, .int v1), (2, .int v2)] [] Z I L (jcz Z - jcz Z0) (jsz Z - jsz Z0)) (v0 : Nat) (v1 : Int32) (v2 : Int32) (Z : jZ) (I : jI) (L : jL) (hZ : SH Z) (hx : jext Z0 Z) (hc : jle Z0 Z) (hb : jin B Z) (kv0 : jk Z v0 11) (h : f_X11_haggle_b45 B K4 Q v0 v1 v2 Z I L) : jJ G 5 45 [(0, .ref v0), (1, .int v1), (2, .int v2)] [] Z I L (jcz Z - jcz Z0) (jsz Z - jsz Z0) := by
  obtain ⟨x52, ex52⟩ : ∃ y : Int32, y = v2 + 1 := ⟨_, rfl⟩
  have h := h x52 ex52
  refine j_iinc E x52 [(2, .int x52), (0, .ref v0), (1, .int v1)] dX11_haggle_45 2 rfl (by rw [ex52]; rfl) (by decide) rfl ?_
  refine j_goto E 4 dX11_haggle_48 (by decide) ?_
  refine j_sub [1, 2, 0] rfl ?_
  exact hK4 v0 v1 x52 Z I L hZ hx hc hb kv0 h
set_option maxRecDepth 100000 in
def f_X11_haggle_L4 (B : Nat × Nat)  (Q : Int32 → jZ → jI → jL → Prop) : Nat → Nat → Int32 → Int32 → jZ → jI → jL → Prop
  | 0 => fun _ _ _ _ _ _ => False
  | n + 1 => fun v0 v1 v2 Z I L => (((I v0 4) ≤ v2 → (∃ m53 : Nat, f_X11_haggle_L53 B  Q m53 v0 v1 (0 : Int32) Z I L)) ∧ (¬ ((I v0 4) ≤ v2) → (f_X11_find v0 v2 Z I L (fun r61 I57 L58 => ((r61 = none → f_X11_haggle_b45 B (f_X11_haggle_L4 B Q n) Q v0 v1 v2 Z I57 L58) ∧ (∀ b62 : Nat, r61 = some b62 → (∀ b64 : Nat, jr Z b62 8 = some b64 → (f_X6_lay b64 (I57 b62 3) (I57 b62 4) (-1 : Int32) Z I57 L58 (fun I67 L68 => (∀ b71 : Nat, jr Z b62 8 = some b71 → (f_X6_survey B b71 Z I67 L68 (fun Z73 I74 L75 => f_X11_haggle_b45 B (f_X11_haggle_L4 B Q n) Q v0 v1 v2 Z73 I74 L75))))))))))))
set_option maxHeartbeats 4000000 in
set_option maxRecDepth 100000 in
theorem m_X11_haggle_L4 {G : jG} {Z0 : jZ} {B : Nat × Nat} {Q : Int32 → jZ → jI → jL → Prop} (E : jE G cX11_haggle RX11 w_X11_haggle 5 (some .boolean) (jrm B 6 164 Z0) jRF) (EU : jEU G B Z0 (urtZ B Z0 Q))  : ∀ (n : Nat) (v0 : Nat) (v1 : Int32) (v2 : Int32) (Z : jZ) (I : jI) (L : jL), SH Z → jext Z0 Z → jle Z0 Z → jin B Z → jk Z v0 11 → f_X11_haggle_L4 B  Q n v0 v1 v2 Z I L → jJ G 5 4 [(0, .ref v0), (1, .int v1), (2, .int v2)] [] Z I L (jcz Z - jcz Z0) (jsz Z - jsz Z0) := by
  intro n
  induction n with
  | zero => intro v0 v1 v2 Z I L _ _ _ _ _ h; exact h.elim
  | succ n ih =>
    intro v0 v1 v2 Z I L hZ hx hc hb kv0 h
    have h : (((I v0 4) ≤ v2 → (∃ m53 : Nat, f_X11_haggle_L53 B  Q m53 v0 v1 (0 : Int32) Z I L)) ∧ (¬ ((I v0 4) ≤ v2) → (f_X11_find v0 v2 Z I L (fun r61 I57 L58 => ((r61 = none → f_X11_haggle_b45 B (f_X11_haggle_L4 B Q n) Q v0 v1 v2 Z I57 L58) ∧ (∀ b62 : Nat, r61 = some b62 → (∀ b64 : Nat, jr Z b62 8 = some b64 → (f_X6_lay b64 (I57 b62 3) (I57 b62 4) (-1 : Int32) Z I57 L58 (fun I67 L68 => (∀ b71 : Nat, jr Z b62 8 = some b71 → (f_X6_survey B b71 Z I67 L68 (fun Z73 I74 L75 => f_X11_haggle_b45 B (f_X11_haggle_L4 B Q n) Q v0 v1 v2 Z73 I74 L75)))))))))))) := h
    obtain ⟨K4, eK4⟩ : ∃ K : Nat → Int32 → Int32 → jZ → jI → jL → Prop, K = f_X11_haggle_L4 B  Q n := ⟨_, rfl⟩
    have hK4 := ih
    clear eK4 K4
    generalize f_X11_haggle_L4 B  Q n = K4 at hK4 h
    refine j_iload_n E dX11_haggle_4 2 rfl ?_
    refine j_aload_n E dX11_haggle_5 0 rfl ?_
    refine j_geti E 11 4 rfl rfl (by decide) (by decide) (iw iT_11) rfl rfl (tw W_431) kv0 dX11_haggle_6 ?_
    refine j_icmp_ge E 51 dX11_haggle_9 (by decide) (fun c53 => ?_) (fun c53 => ?_)
    · have h := h.1 c53
      refine j_iconst E (v := 0) dX11_haggle_51 (by decide) ?_
      refine j_istore_n E 2 [(2, .int (0 : Int32)), (0, .ref v0), (1, .int v1)] dX11_haggle_52 rfl (by decide) rfl ?_
      obtain ⟨n54, h⟩ := h
      refine j_sub [1, 2, 0] rfl ?_
      exact m_X11_haggle_L53 E EU  n54 v0 v1 (0 : Int32) Z I L hZ hx hc hb kv0 h
    · have h := h.2 c53
      refine j_aload_n E dX11_haggle_12 0 rfl ?_
      refine j_iload_n E dX11_haggle_13 2 rfl ?_
      refine j_callV E [.int v2] [] (c_X11_find (gL G) (gD G) (gY G) v0 v2 Z I L _ hZ kv0 h) (gwV W_437 W_438 W_439 W_40 W_436) rfl ⟨rfl, fy_X11_find⟩ ⟨Nat.le_of_ble_eq_true rfl, Nat.le_of_ble_eq_true rfl⟩ (c := 11) rfl (by decide) kv0 rfl rfl (Nat.le_of_ble_eq_true rfl) (ju_kn hb) dX11_haggle_14 (fun v55 Z56 I57 L58 q59 => ?_)
      obtain ⟨rfl, r61, rfl, zr61, h⟩ := q59
      show jJ G 5 17 [(0, .ref v0), (1, .int v1), (2, .int v2)] (va_rf r61 :: []) Z I57 L58 (jcz Z - jcz Z0) (jsz Z - jsz Z0)
      rcases c63 : r61 with _ | b62
      · have h := h.1 c63
        refine j_rfN rfl ?_
        refine j_astore_nN E 3 [(3, .null), (0, .ref v0), (1, .int v1), (2, .int v2)] dX11_haggle_17 rfl (by decide) rfl ?_
        refine j_aload_nN E dX11_haggle_18 0 rfl ?_
        refine j_ifnullN E 45 dX11_haggle_19 (by decide) ?_
        refine j_sub [1, 2, 3] rfl ?_
        exact m_X11_haggle_b45 E EU K4 hK4 v0 v1 v2 Z I57 L58 hZ hx hc hb kv0 h
      · have h := h.2 b62 c63
        have kb62 := zr61 b62 c63
        refine j_rfS rfl ?_
        refine j_astore_n E 3 [(3, .ref b62), (0, .ref v0), (1, .int v1), (2, .int v2)] dX11_haggle_17 rfl (by decide) rfl ?_
        refine j_aload_n E dX11_haggle_18 0 rfl ?_
        refine j_ifnull E dX11_haggle_19 ?_
        refine j_aload_n E dX11_haggle_22 0 rfl ?_
        obtain ⟨b64, eb64, kb64⟩ := sh_o hZ kb62 (j := 8) (k := 6) rfl
        have h := h b64 eb64
        refine j_getrN E 5 8 rfl rfl (by decide) (by decide) (iw iT_5) rfl rfl (nw_5_8_X11_263) kb62 eb64 dX11_haggle_23 ?_
        refine j_aload_n E dX11_haggle_26 0 rfl ?_
        refine j_getiN E 5 3 rfl rfl (by decide) (by decide) (iw iT_5) rfl rfl (nw_5_3_X11_213) kb62 dX11_haggle_27 ?_
        refine j_aload_n E dX11_haggle_30 0 rfl ?_
        refine j_getiN E 5 4 rfl rfl (by decide) (by decide) (iw iT_5) rfl rfl (nw_5_4_X11_196) kb62 dX11_haggle_31 ?_
        refine j_iconst E (v := -1) dX11_haggle_34 (by decide) ?_
        refine j_callV E [.int (I57 b62 3), .int (I57 b62 4), .int (-1 : Int32)] [] (c_X6_lay (gL G) (gD G) (gY G) b64 (I57 b62 3) (I57 b62 4) (-1 : Int32) Z I57 L58 _ hZ kb64 h) (gwV W_532 W_533 W_534 W_33 W_531) rfl ⟨rfl, fy_X6_lay⟩ ⟨Nat.le_of_ble_eq_true rfl, Nat.le_of_ble_eq_true rfl⟩ (c := 6) rfl (by decide) kb64 rfl rfl (Nat.le_of_ble_eq_true rfl) (ju_kn hb) dX11_haggle_35 (fun v65 Z66 I67 L68 q69 => ?_)
        obtain ⟨rfl, rfl, h⟩ := q69
        show jJ G 5 38 [(3, .ref b62), (0, .ref v0), (1, .int v1), (2, .int v2)] [] Z I67 L68 (jcz Z - jcz Z0) (jsz Z - jsz Z0)
        refine j_aload_n E dX11_haggle_38 0 rfl ?_
        obtain ⟨b71, eb71, kb71⟩ := sh_o hZ kb62 (j := 8) (k := 6) rfl
        have h := h b71 eb71
        refine j_getrN E 5 8 rfl rfl (by decide) (by decide) (iw iT_5) rfl rfl (nw_5_8_X11_263) kb62 eb71 dX11_haggle_39 ?_
        refine ju_callV E [] [] (c_X6_survey (gL G) (gD G) (gY G) B b71 Z I67 L68 _ hZ hb kb71 h) (gwV W_583 W_584 W_585 W_33 W_582) rfl ⟨rfl, fy_X6_survey⟩ ⟨Nat.le_of_ble_eq_true rfl, Nat.le_of_ble_eq_true rfl⟩ (c := 6) rfl (by decide) kb71 rfl rfl (Nat.le_of_ble_eq_true rfl) (ju_f hc hb) dX11_haggle_42 (fun v72 Z73 I74 L75 q76 j77 => ?_)
        refine ju_next hc j77 ?_
        have hc := jle_trans hc j77
        obtain ⟨yZ73, hZ73, hbZ73, rfl, h⟩ := q76
        have hZ := hZ73
        have hx : jext Z0 Z73 := jext_trans hx yZ73
        have hb := hbZ73
        have k78 := (yZ73 _ _ kv0).1
        have k79 := (yZ73 _ _ kb62).1
        show jJ G 5 45 [(3, .ref b62), (0, .ref v0), (1, .int v1), (2, .int v2)] [] Z73 I74 L75 (jcz Z73 - jcz Z0) (jsz Z73 - jsz Z0)
        refine j_sub [1, 2, 3] rfl ?_
        exact m_X11_haggle_b45 E EU K4 hK4 v0 v1 v2 Z73 I74 L75 hZ hx hc hb k78 h
set_option maxRecDepth 100000 in
def f_X11_haggle (B : Nat × Nat) (v0 : Nat) (Z : jZ) (I : jI) (L : jL) (Q : Int32 → jZ → jI → jL → Prop) : Prop := (∃ m4 : Nat, f_X11_haggle_L4 B  Q m4 v0 (0 : Int32) (0 : Int32) Z I L)
set_option maxHeartbeats 4000000 in
set_option maxRecDepth 100000 in
theorem c_X11_haggle (l : Launch) (D : va_G) (cy : jC) (B : Nat × Nat) (v0 : Nat) (Z : jZ) (I : jI) (L : jL) (Q : Int32 → jZ → jI → jL → Prop) (hZ : SH Z) (hb : jin B Z) (kv0 : jk Z v0 11) (h : f_X11_haggle B v0 Z I L Q) : jCtU l yX11_haggle w_X11_haggle B 6 164 D cy [.ref v0] Z I L (urtZ B Z Q) := by
  refine jCtU_of (cc := cX11_haggle) (maxL := 5) (ret := (some .boolean)) (by decide +kernel) rfl (Nat.le_of_ble_eq_true rfl) ?_
  intro G eD eY eL E EU
  subst eD; subst eY; subst eL
  have E : jE G cX11_haggle RX11 w_X11_haggle 5 (some .boolean) (jrm B 6 164 Z) jRF := E
  have hx : jext Z Z := jext_rfl
  have hc : jle Z Z := jle_rfl
  show jJ G 5 0 [(0, .ref v0)] [] Z I L (jcz Z - jcz Z) (jsz Z - jsz Z)
  refine j_iconst E (v := 0) dX11_haggle_0 (by decide) ?_
  refine j_istore_n E 1 [(1, .int (0 : Int32)), (0, .ref v0)] dX11_haggle_1 rfl (by decide) rfl ?_
  refine j_iconst E (v := 0) dX11_haggle_2 (by decide) ?_
  refine j_istore_n E 2 [(2, .int (0 : Int32)), (1, .int (0 : Int32)), (0, .ref v0)] dX11_haggle_3 rfl (by decide) rfl ?_
  obtain ⟨n80, h⟩ := h
  refine j_sub [2, 1, 0] rfl ?_
  exact m_X11_haggle_L4 E EU  n80 v0 (0 : Int32) (0 : Int32) Z I L hZ hx hc hb kv0 h
