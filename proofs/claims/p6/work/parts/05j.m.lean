set_option maxRecDepth 100000 in
def f_X12_knees_b97 (B : Nat × Nat) (K36 : Nat → Int32 → Int32 → jZ → jI → jL → Prop) (Q : Int32 → jZ → jI → jL → Prop) (v0 : Nat) (v1 : Int32) (v2 : Int32) (Z : jZ) (I : jI) (L : jL) : Prop := (∀ x1 : Int32, x1 = v2 + 1 → K36 v0 v1 x1 Z I L)
set_option maxHeartbeats 4000000 in
set_option maxRecDepth 100000 in
theorem m_X12_knees_b97 {G : jG} {B : Nat × Nat} {Z0 : jZ} {Q : Int32 → jZ → jI → jL → Prop} (E : jE G cX12_knees RX12 w_X12_knees 3 (some .int) (jrm B 106 2564 Z0) jRF) (EU : jEU G B Z0 (urtI B Z0 Q)) (K36 : Nat → Int32 → Int32 → jZ → jI → jL → Prop) (hK36 : ∀ (v0 : Nat) (v1 : Int32) (v2 : Int32) (Z : jZ) (I : jI) (L : jL), SH Z → jext Z0 Z → jle Z0 Z → jin B Z → jk Z v0 12 → K36 v0 v1 v2 Z I L → jJ G 3 36 [(0, .ref v0), (1, .int v1), (2, .int v2)] [] Z I L (jcz Z - jcz Z0) (jsz Z - jsz Z0)) (v0 : Nat) (v1 : Int32) (v2 : Int32) (Z : jZ) (I : jI) (L : jL) (hZ : SH Z) (hx : jext Z0 Z) (hc : jle Z0 Z) (hb : jin B Z) (kv0 : jk Z v0 12) (h : f_X12_knees_b97 B K36 Q v0 v1 v2 Z I L) : jJ G 3 97 [(0, .ref v0), (1, .int v1), (2, .int v2)] [] Z I L (jcz Z - jcz Z0) (jsz Z - jsz Z0) := by
  obtain ⟨x1, ex1⟩ : ∃ y : Int32, y = v2 + 1 := ⟨_, rfl⟩
  have h := h x1 ex1
  refine j_iinc E x1 [(2, .int x1), (0, .ref v0), (1, .int v1)] dX12_knees_97 2 rfl (by rw [ex1]; rfl) (by decide) rfl ?_
  refine j_goto E 36 dX12_knees_100 (by decide) ?_
  refine j_sub [1, 2, 0] rfl ?_
  exact hK36 v0 v1 x1 Z I L hZ hx hc hb kv0 h
set_option maxRecDepth 100000 in
def f_X12_knees_L36 (B : Nat × Nat)  (Q : Int32 → jZ → jI → jL → Prop) : Nat → Nat → Int32 → Int32 → jZ → jI → jL → Prop
  | 0 => fun _ _ _ _ _ _ => False
  | n + 1 => fun v0 v1 v2 Z I L => (((999 : Int32) < v2 → Q (-2 : Int32) Z I L) ∧ (¬ ((999 : Int32) < v2) → (∀ b3 : Nat, jr Z v0 40 = some b3 → (vp_in v2 25000 ∧ (((I b3 v2.toNatClampNeg) = (1000000000 : Int32) → f_X12_knees_b97 B (f_X12_knees_L36 B Q n) Q v0 v1 v2 Z I L) ∧ (¬ ((I b3 v2.toNatClampNeg) = (1000000000 : Int32)) → (∀ b6 : Nat, jr Z v0 40 = some b6 → (vp_in v2 25000 ∧ (∀ b8 : Nat, jr Z v0 10 = some b8 → (vp_in v1 6 ∧ ((((I b6 v2.toNatClampNeg) / (100 : Int32)) ≤ (I b8 v1.toNatClampNeg) → (∀ I11 : jI, I11 = jpI I v0 21 (0 : Int32) → (∀ b12 : Nat, jr Z v0 40 = some b12 → (vp_in v2 25000 ∧ (f_X12_tell v0 (((I11 b12 v2.toNatClampNeg) / (100 : Int32)).toInt64) Z I11 L (fun I16 L17 => Q v2 Z I16 L17)))))) ∧ (¬ (((I b6 v2.toNatClampNeg) / (100 : Int32)) ≤ (I b8 v1.toNatClampNeg)) → f_X12_knees_b97 B (f_X12_knees_L36 B Q n) Q v0 v1 v2 Z I L))))))))))))
set_option maxHeartbeats 4000000 in
set_option maxRecDepth 100000 in
theorem m_X12_knees_L36 {G : jG} {Z0 : jZ} {B : Nat × Nat} {Q : Int32 → jZ → jI → jL → Prop} (E : jE G cX12_knees RX12 w_X12_knees 3 (some .int) (jrm B 106 2564 Z0) jRF) (EU : jEU G B Z0 (urtI B Z0 Q))  : ∀ (n : Nat) (v0 : Nat) (v1 : Int32) (v2 : Int32) (Z : jZ) (I : jI) (L : jL), SH Z → jext Z0 Z → jle Z0 Z → jin B Z → jk Z v0 12 → f_X12_knees_L36 B  Q n v0 v1 v2 Z I L → jJ G 3 36 [(0, .ref v0), (1, .int v1), (2, .int v2)] [] Z I L (jcz Z - jcz Z0) (jsz Z - jsz Z0) := by
  intro n
  induction n with
  | zero => intro v0 v1 v2 Z I L _ _ _ _ _ h; exact h.elim
  | succ n ih =>
    intro v0 v1 v2 Z I L hZ hx hc hb kv0 h
    have h : (((999 : Int32) < v2 → Q (-2 : Int32) Z I L) ∧ (¬ ((999 : Int32) < v2) → (∀ b3 : Nat, jr Z v0 40 = some b3 → (vp_in v2 25000 ∧ (((I b3 v2.toNatClampNeg) = (1000000000 : Int32) → f_X12_knees_b97 B (f_X12_knees_L36 B Q n) Q v0 v1 v2 Z I L) ∧ (¬ ((I b3 v2.toNatClampNeg) = (1000000000 : Int32)) → (∀ b6 : Nat, jr Z v0 40 = some b6 → (vp_in v2 25000 ∧ (∀ b8 : Nat, jr Z v0 10 = some b8 → (vp_in v1 6 ∧ ((((I b6 v2.toNatClampNeg) / (100 : Int32)) ≤ (I b8 v1.toNatClampNeg) → (∀ I11 : jI, I11 = jpI I v0 21 (0 : Int32) → (∀ b12 : Nat, jr Z v0 40 = some b12 → (vp_in v2 25000 ∧ (f_X12_tell v0 (((I11 b12 v2.toNatClampNeg) / (100 : Int32)).toInt64) Z I11 L (fun I16 L17 => Q v2 Z I16 L17)))))) ∧ (¬ (((I b6 v2.toNatClampNeg) / (100 : Int32)) ≤ (I b8 v1.toNatClampNeg)) → f_X12_knees_b97 B (f_X12_knees_L36 B Q n) Q v0 v1 v2 Z I L)))))))))))) := h
    obtain ⟨K36, eK36⟩ : ∃ K : Nat → Int32 → Int32 → jZ → jI → jL → Prop, K = f_X12_knees_L36 B  Q n := ⟨_, rfl⟩
    have hK36 := ih
    clear eK36 K36
    generalize f_X12_knees_L36 B  Q n = K36 at hK36 h
    refine j_iload_n E dX12_knees_36 2 rfl ?_
    refine j_sipush E (v := 999) dX12_knees_37 (by decide) ?_
    refine j_icmp_gt E 103 dX12_knees_40 (by decide) (fun c2 => ?_) (fun c2 => ?_)
    · have h := h.1 c2
      refine j_bipush E (v := -2) dX12_knees_103 (by decide) ?_
      exact ju_ireturn E EU hc hb ⟨hx, hZ, hb, _, rfl, h⟩ dX12_knees_105
    · have h := h.2 c2
      refine j_aload_n E dX12_knees_43 0 rfl ?_
      obtain ⟨b3, eb3, kb3, lb3⟩ := sh_f hZ kv0 (j := 40) (k := 14) (m := 25000) rfl
      have h := h b3 eb3
      refine j_getr E 12 40 rfl rfl (by decide) (by decide) (iw iT_12) rfl rfl (tw W_846) kv0 eb3 dX12_knees_44 ?_
      refine j_iload_n E dX12_knees_47 2 rfl ?_
      obtain ⟨o4, h⟩ := h
      refine j_iald E kb3 (by rw [lb3]; exact o4) dX12_knees_48 ?_
      refine j_ldcw E (tw W_843) dX12_knees_49 ?_
      refine j_icmp_eq E 97 dX12_knees_52 (by decide) (fun c5 => ?_) (fun c5 => ?_)
      · have h := h.1 c5
        refine j_sub [0, 1, 2] rfl ?_
        exact m_X12_knees_b97 E EU K36 hK36 v0 v1 v2 Z I L hZ hx hc hb kv0 h
      · have h := h.2 c5
        refine j_aload_n E dX12_knees_55 0 rfl ?_
        obtain ⟨b6, eb6, kb6, lb6⟩ := sh_f hZ kv0 (j := 40) (k := 14) (m := 25000) rfl
        have h := h b6 eb6
        refine j_getr E 12 40 rfl rfl (by decide) (by decide) (iw iT_12) rfl rfl (tw W_846) kv0 eb6 dX12_knees_56 ?_
        refine j_iload_n E dX12_knees_59 2 rfl ?_
        obtain ⟨o7, h⟩ := h
        refine j_iald E kb6 (by rw [lb6]; exact o7) dX12_knees_60 ?_
        refine j_bipush E (v := 100) dX12_knees_61 (by decide) ?_
        refine j_idiv E dX12_knees_63 (by decide) ?_
        refine j_aload_n E dX12_knees_64 0 rfl ?_
        obtain ⟨b8, eb8, kb8, lb8⟩ := sh_f hZ kv0 (j := 10) (k := 14) (m := 6) rfl
        have h := h b8 eb8
        refine j_getr E 12 10 rfl rfl (by decide) (by decide) (iw iT_12) rfl rfl (tw W_736) kv0 eb8 dX12_knees_65 ?_
        refine j_iload_n E dX12_knees_68 1 rfl ?_
        obtain ⟨o9, h⟩ := h
        refine j_iald E kb8 (by rw [lb8]; exact o9) dX12_knees_69 ?_
        refine j_icmp_le E 76 dX12_knees_70 (by decide) (fun c10 => ?_) (fun c10 => ?_)
        · have h := h.1 c10
          refine j_aload_n E dX12_knees_76 0 rfl ?_
          refine j_iconst E (v := 0) dX12_knees_77 (by decide) ?_
          refine j_puti E 12 21 rfl rfl (by decide) (by decide) (iw iT_12) tyX12_ok nmX12 rfl rfl (tw W_692) rfl rfl rfl kv0 dX12_knees_78 ?_
          refine j_nmI (fun I11 eI11 => ?_)
          have h := h I11 eI11
          refine j_aload_n E dX12_knees_81 0 rfl ?_
          refine j_aload_n E dX12_knees_82 0 rfl ?_
          obtain ⟨b12, eb12, kb12, lb12⟩ := sh_f hZ kv0 (j := 40) (k := 14) (m := 25000) rfl
          have h := h b12 eb12
          refine j_getr E 12 40 rfl rfl (by decide) (by decide) (iw iT_12) rfl rfl (tw W_846) kv0 eb12 dX12_knees_83 ?_
          refine j_iload_n E dX12_knees_86 2 rfl ?_
          obtain ⟨o13, h⟩ := h
          refine j_iald E kb12 (by rw [lb12]; exact o13) dX12_knees_87 ?_
          refine j_bipush E (v := 100) dX12_knees_88 (by decide) ?_
          refine j_idiv E dX12_knees_90 (by decide) ?_
          refine j_i2l E dX12_knees_91 ?_
          refine j_callV E [.long (((I11 b12 v2.toNatClampNeg) / (100 : Int32)).toInt64)] [] (c_X12_tell (gL G) (gD G) (gY G) v0 (((I11 b12 v2.toNatClampNeg) / (100 : Int32)).toInt64) Z I11 L _ hZ kv0 h) (gwV W_820 W_821 W_822 W_695 W_819) rfl ⟨rfl, fy_X12_tell⟩ ⟨Nat.le_of_ble_eq_true rfl, Nat.le_of_ble_eq_true rfl⟩ (c := 12) rfl (by decide) kv0 rfl rfl (Nat.le_of_ble_eq_true rfl) (ju_kn hb) dX12_knees_92 (fun v14 Z15 I16 L17 q18 => ?_)
          obtain ⟨rfl, rfl, h⟩ := q18
          show jJ G 3 95 [(0, .ref v0), (1, .int v1), (2, .int v2)] [] Z I16 L17 (jcz Z - jcz Z0) (jsz Z - jsz Z0)
          refine j_iload_n E dX12_knees_95 2 rfl ?_
          exact ju_ireturn E EU hc hb ⟨hx, hZ, hb, _, rfl, h⟩ dX12_knees_96
        · have h := h.2 c10
          refine j_goto E 97 dX12_knees_73 (by decide) ?_
          refine j_sub [0, 1, 2] rfl ?_
          exact m_X12_knees_b97 E EU K36 hK36 v0 v1 v2 Z I L hZ hx hc hb kv0 h
set_option maxRecDepth 100000 in
def f_X12_knees (B : Nat × Nat) (v0 : Nat) (v1 : Int32) (Z : jZ) (I : jI) (L : jL) (Q : Int32 → jZ → jI → jL → Prop) : Prop := (∀ I20 : jI, I20 = jpI I v0 22 (0 : Int32) → (f_X12_isOne v0 v1 Z I20 L (fun r27 I23 L24 => ((r27 = 0 → Q (-1 : Int32) Z I23 L24) ∧ (¬ (r27 = 0) → ((¬ (I23 v0 0) = 0 → (f_X12_layMoves B v0 v1 Z I23 L24 (fun Z31 I32 L33 => (f_X12_findByEffort v0 (999 : Int32) Z31 I32 L33 (fun I39 L40 => (∃ m36 : Nat, f_X12_knees_L36 B  Q m36 v0 v1 (0 : Int32) Z31 I39 L40)))))) ∧ ((I23 v0 0) = 0 → Q (-1 : Int32) Z I23 L24)))))))
set_option maxHeartbeats 4000000 in
set_option maxRecDepth 100000 in
theorem c_X12_knees (l : Launch) (D : va_G) (cy : jC) (B : Nat × Nat) (v0 : Nat) (v1 : Int32) (Z : jZ) (I : jI) (L : jL) (Q : Int32 → jZ → jI → jL → Prop) (hZ : SH Z) (hb : jin B Z) (kv0 : jk Z v0 12) (h : f_X12_knees B v0 v1 Z I L Q) : jCtU l yX12_knees w_X12_knees B 106 2564 D cy [.ref v0, .int v1] Z I L (urtI B Z Q) := by
  refine jCtU_of (cc := cX12_knees) (maxL := 3) (ret := (some .int)) (by decide +kernel) rfl (Nat.le_of_ble_eq_true rfl) ?_
  intro G eD eY eL E EU
  subst eD; subst eY; subst eL
  have E : jE G cX12_knees RX12 w_X12_knees 3 (some .int) (jrm B 106 2564 Z) jRF := E
  have hx : jext Z Z := jext_rfl
  have hc : jle Z Z := jle_rfl
  show jJ G 3 0 [(0, .ref v0), (1, .int v1)] [] Z I L (jcz Z - jcz Z) (jsz Z - jsz Z)
  refine j_aload_n E dX12_knees_0 0 rfl ?_
  refine j_iconst E (v := 0) dX12_knees_1 (by decide) ?_
  refine j_puti E 12 22 rfl rfl (by decide) (by decide) (iw iT_12) tyX12_ok nmX12 rfl rfl (tw W_690) rfl rfl rfl kv0 dX12_knees_2 ?_
  refine j_nmI (fun I20 eI20 => ?_)
  have h := h I20 eI20
  refine j_aload_n E dX12_knees_5 0 rfl ?_
  refine j_iload_n E dX12_knees_6 1 rfl ?_
  refine j_callV E [.int v1] [] (c_X12_isOne (gL G) (gD G) (gY G) v0 v1 Z I20 L _ hZ kv0 h) (gwV W_804 W_805 W_806 W_695 W_803) rfl ⟨rfl, fy_X12_isOne⟩ ⟨Nat.le_of_ble_eq_true rfl, Nat.le_of_ble_eq_true rfl⟩ (c := 12) rfl (by decide) kv0 rfl rfl (Nat.le_of_ble_eq_true rfl) (ju_kn hb) dX12_knees_7 (fun v21 Z22 I23 L24 q25 => ?_)
  obtain ⟨rfl, r27, rfl, zr27, h⟩ := q25
  show jJ G 3 10 [(0, .ref v0), (1, .int v1)] [.int r27] Z I23 L24 (jcz Z - jcz Z) (jsz Z - jsz Z)
  refine j_if_eq E 20 dX12_knees_10 (by decide) (fun c28 => ?_) (fun c28 => ?_)
  · have h := h.1 c28
    refine j_iconst E (v := -1) dX12_knees_20 (by decide) ?_
    exact ju_ireturn E EU hc hb ⟨hx, hZ, hb, _, rfl, h⟩ dX12_knees_21
  · have h := h.2 c28
    refine j_aload_n E dX12_knees_13 0 rfl ?_
    refine j_geti E 12 0 rfl rfl (by decide) (by decide) (iw iT_12) rfl rfl (tw W_693) kv0 dX12_knees_14 ?_
    refine j_if_ne E 22 dX12_knees_17 (by decide) (fun c29 => ?_) (fun c29 => ?_)
    · have h := h.1 c29
      refine j_aload_n E dX12_knees_22 0 rfl ?_
      refine j_iload_n E dX12_knees_23 1 rfl ?_
      refine ju_callV E [.int v1] [] (c_X12_layMoves (gL G) (gD G) (gY G) B v0 v1 Z I23 L24 _ hZ hb kv0 h) (gwV W_856 W_857 W_858 W_695 W_855) rfl ⟨rfl, fy_X12_layMoves⟩ ⟨Nat.le_of_ble_eq_true rfl, Nat.le_of_ble_eq_true rfl⟩ (c := 12) rfl (by decide) kv0 rfl rfl (Nat.le_of_ble_eq_true rfl) (ju_f hc hb) dX12_knees_24 (fun v30 Z31 I32 L33 q34 j35 => ?_)
      refine ju_next hc j35 ?_
      have hc := jle_trans hc j35
      obtain ⟨yZ31, hZ31, hbZ31, rfl, h⟩ := q34
      have hZ := hZ31
      have hx : jext Z Z31 := jext_trans hx yZ31
      have hb := hbZ31
      have k36 := (yZ31 _ _ kv0).1
      show jJ G 3 27 [(0, .ref v0), (1, .int v1)] [] Z31 I32 L33 (jcz Z31 - jcz Z) (jsz Z31 - jsz Z)
      refine j_aload_n E dX12_knees_27 0 rfl ?_
      refine j_sipush E (v := 999) dX12_knees_28 (by decide) ?_
      refine j_callV E [.int (999 : Int32)] [] (c_X12_findByEffort (gL G) (gD G) (gY G) v0 (999 : Int32) Z31 I32 L33 _ hZ k36 h) (gwV W_860 W_861 W_862 W_695 W_859) rfl ⟨rfl, fy_X12_findByEffort⟩ ⟨Nat.le_of_ble_eq_true rfl, Nat.le_of_ble_eq_true rfl⟩ (c := 12) rfl (by decide) k36 rfl rfl (Nat.le_of_ble_eq_true rfl) (ju_kn hb) dX12_knees_31 (fun v37 Z38 I39 L40 q41 => ?_)
      obtain ⟨rfl, rfl, h⟩ := q41
      show jJ G 3 34 [(0, .ref v0), (1, .int v1)] [] Z31 I39 L40 (jcz Z31 - jcz Z) (jsz Z31 - jsz Z)
      refine j_iconst E (v := 0) dX12_knees_34 (by decide) ?_
      refine j_istore_n E 2 [(2, .int (0 : Int32)), (0, .ref v0), (1, .int v1)] dX12_knees_35 rfl (by decide) rfl ?_
      obtain ⟨n43, h⟩ := h
      refine j_sub [1, 2, 0] rfl ?_
      exact m_X12_knees_L36 E EU  n43 v0 v1 (0 : Int32) Z31 I39 L40 hZ hx hc hb k36 h
    · have h := h.2 c29
      refine j_iconst E (v := -1) dX12_knees_20 (by decide) ?_
      exact ju_ireturn E EU hc hb ⟨hx, hZ, hb, _, rfl, h⟩ dX12_knees_21
set_option maxRecDepth 100000 in
def f_X12_countWays_b398 (B : Nat × Nat) (K338 : Nat → Int32 → Int32 → Int32 → Int32 → Int32 → jZ → jI → jL → Prop) (Q : Int32 → jZ → jI → jL → Prop) (v0 : Nat) (v1 : Int32) (v2 : Int32) (v3 : Int32) (v4 : Int32) (v5 : Int32) (v6 : Int32) (Z : jZ) (I : jI) (L : jL) : Prop := (∀ x1 : Int32, x1 = (v4 + v6) → (∀ x2 : Int32, x2 = v5 + 1 → K338 v0 v1 v2 v3 x1 x2 Z I L))
set_option maxHeartbeats 4000000 in
set_option maxRecDepth 100000 in
theorem m_X12_countWays_b398 {G : jG} {B : Nat × Nat} {Z0 : jZ} {Q : Int32 → jZ → jI → jL → Prop} (E : jE G cX12_countWays RX12 w_X12_countWays 11 (some .int) (jrm B 106 2564 Z0) jRF) (EU : jEU G B Z0 (urtI B Z0 Q)) (K338 : Nat → Int32 → Int32 → Int32 → Int32 → Int32 → jZ → jI → jL → Prop) (hK338 : ∀ (v0 : Nat) (v1 : Int32) (v2 : Int32) (v3 : Int32) (v4 : Int32) (v5 : Int32) (Z : jZ) (I : jI) (L : jL), SH Z → jext Z0 Z → jle Z0 Z → jin B Z → jk Z v0 12 → K338 v0 v1 v2 v3 v4 v5 Z I L → jJ G 11 338 [(0, .ref v0), (1, .int v1), (2, .int v2), (3, .int v3), (4, .int v4), (5, .int v5)] [] Z I L (jcz Z - jcz Z0) (jsz Z - jsz Z0)) (v0 : Nat) (v1 : Int32) (v2 : Int32) (v3 : Int32) (v4 : Int32) (v5 : Int32) (v6 : Int32) (Z : jZ) (I : jI) (L : jL) (hZ : SH Z) (hx : jext Z0 Z) (hc : jle Z0 Z) (hb : jin B Z) (kv0 : jk Z v0 12) (h : f_X12_countWays_b398 B K338 Q v0 v1 v2 v3 v4 v5 v6 Z I L) : jJ G 11 398 [(0, .ref v0), (1, .int v1), (2, .int v2), (3, .int v3), (4, .int v4), (5, .int v5), (6, .int v6)] [] Z I L (jcz Z - jcz Z0) (jsz Z - jsz Z0) := by
  refine j_iload E dX12_countWays_398 4 rfl ?_
  refine j_iload E dX12_countWays_400 6 rfl ?_
  refine j_iadd E dX12_countWays_402 ?_
  refine j_topi (fun x1 ex1 => ?_)
  have h := h x1 ex1
  refine j_istore E 4 [(4, .int x1), (0, .ref v0), (1, .int v1), (2, .int v2), (3, .int v3), (5, .int v5), (6, .int v6)] dX12_countWays_403 (by decide) rfl ?_
  obtain ⟨x2, ex2⟩ : ∃ y : Int32, y = v5 + 1 := ⟨_, rfl⟩
  have h := h x2 ex2
  refine j_iinc E x2 [(5, .int x2), (4, .int x1), (0, .ref v0), (1, .int v1), (2, .int v2), (3, .int v3), (6, .int v6)] dX12_countWays_405 5 rfl (by rw [ex2]; rfl) (by decide) rfl ?_
  refine j_goto E 338 dX12_countWays_408 (by decide) ?_
  refine j_sub [2, 3, 4, 5, 1, 0] rfl ?_
  exact hK338 v0 v1 v2 v3 x1 x2 Z I L hZ hx hc hb kv0 h
set_option maxRecDepth 100000 in
def f_X12_countWays_L338 (B : Nat × Nat)  (Q : Int32 → jZ → jI → jL → Prop) : Nat → Nat → Int32 → Int32 → Int32 → Int32 → Int32 → jZ → jI → jL → Prop
  | 0 => fun _ _ _ _ _ _ _ _ _ => False
  | n + 1 => fun v0 v1 v2 v3 v4 v5 Z I L => (∀ b3 : Nat, jr Z v0 9 = some b3 → (vp_in v1 6 ∧ (((I b3 v1.toNatClampNeg) < v5 → Q v4 Z I L) ∧ (¬ ((I b3 v1.toNatClampNeg) < v5) → (∀ b6 : Nat, jr Z v0 45 = some b6 → (vp_in ((((((I v0 0) - (I v0 0) / (4 : Int32) * (4 : Int32)) * v3) + v5) * (1000 : Int32)) + v2) 484000 ∧ (∀ x8 : Int32, x8 = (I b6 ((((((I v0 0) - (I v0 0) / (4 : Int32) * (4 : Int32)) * v3) + v5) * (1000 : Int32)) + v2).toNatClampNeg) → ((x8 ≤ 0 → f_X12_countWays_b398 B (f_X12_countWays_L338 B Q n) Q v0 v1 v2 v3 v4 v5 x8 Z I L) ∧ (¬ (x8 ≤ 0) → ((¬ (I v0 46) = (-1 : Int32) → f_X12_countWays_b398 B (f_X12_countWays_L338 B Q n) Q v0 v1 v2 v3 v4 v5 x8 Z I L) ∧ ((I v0 46) = (-1 : Int32) → (∀ I11 : jI, I11 = jpI I v0 46 v5 → (∀ I12 : jI, I12 = jpI I11 v0 47 x8 → f_X12_countWays_b398 B (f_X12_countWays_L338 B Q n) Q v0 v1 v2 v3 v4 v5 x8 Z I12 L)))))))))))))
set_option maxHeartbeats 4000000 in
set_option maxRecDepth 100000 in
theorem m_X12_countWays_L338 {G : jG} {Z0 : jZ} {B : Nat × Nat} {Q : Int32 → jZ → jI → jL → Prop} (E : jE G cX12_countWays RX12 w_X12_countWays 11 (some .int) (jrm B 106 2564 Z0) jRF) (EU : jEU G B Z0 (urtI B Z0 Q))  : ∀ (n : Nat) (v0 : Nat) (v1 : Int32) (v2 : Int32) (v3 : Int32) (v4 : Int32) (v5 : Int32) (Z : jZ) (I : jI) (L : jL), SH Z → jext Z0 Z → jle Z0 Z → jin B Z → jk Z v0 12 → f_X12_countWays_L338 B  Q n v0 v1 v2 v3 v4 v5 Z I L → jJ G 11 338 [(0, .ref v0), (1, .int v1), (2, .int v2), (3, .int v3), (4, .int v4), (5, .int v5)] [] Z I L (jcz Z - jcz Z0) (jsz Z - jsz Z0) := by
  intro n
  induction n with
  | zero => intro v0 v1 v2 v3 v4 v5 Z I L _ _ _ _ _ h; exact h.elim
  | succ n ih =>
    intro v0 v1 v2 v3 v4 v5 Z I L hZ hx hc hb kv0 h
    have h : (∀ b3 : Nat, jr Z v0 9 = some b3 → (vp_in v1 6 ∧ (((I b3 v1.toNatClampNeg) < v5 → Q v4 Z I L) ∧ (¬ ((I b3 v1.toNatClampNeg) < v5) → (∀ b6 : Nat, jr Z v0 45 = some b6 → (vp_in ((((((I v0 0) - (I v0 0) / (4 : Int32) * (4 : Int32)) * v3) + v5) * (1000 : Int32)) + v2) 484000 ∧ (∀ x8 : Int32, x8 = (I b6 ((((((I v0 0) - (I v0 0) / (4 : Int32) * (4 : Int32)) * v3) + v5) * (1000 : Int32)) + v2).toNatClampNeg) → ((x8 ≤ 0 → f_X12_countWays_b398 B (f_X12_countWays_L338 B Q n) Q v0 v1 v2 v3 v4 v5 x8 Z I L) ∧ (¬ (x8 ≤ 0) → ((¬ (I v0 46) = (-1 : Int32) → f_X12_countWays_b398 B (f_X12_countWays_L338 B Q n) Q v0 v1 v2 v3 v4 v5 x8 Z I L) ∧ ((I v0 46) = (-1 : Int32) → (∀ I11 : jI, I11 = jpI I v0 46 v5 → (∀ I12 : jI, I12 = jpI I11 v0 47 x8 → f_X12_countWays_b398 B (f_X12_countWays_L338 B Q n) Q v0 v1 v2 v3 v4 v5 x8 Z I12 L))))))))))))) := h
    obtain ⟨K338, eK338⟩ : ∃ K : Nat → Int32 → Int32 → Int32 → Int32 → Int32 → jZ → jI → jL → Prop, K = f_X12_countWays_L338 B  Q n := ⟨_, rfl⟩
    have hK338 := ih
    clear eK338 K338
    generalize f_X12_countWays_L338 B  Q n = K338 at hK338 h
    refine j_iload E dX12_countWays_338 5 rfl ?_
    refine j_aload_n E dX12_countWays_340 0 rfl ?_
    obtain ⟨b3, eb3, kb3, lb3⟩ := sh_f hZ kv0 (j := 9) (k := 14) (m := 6) rfl
    have h := h b3 eb3
    refine j_getr E 12 9 rfl rfl (by decide) (by decide) (iw iT_12) rfl rfl (tw W_734) kv0 eb3 dX12_countWays_341 ?_
    refine j_iload_n E dX12_countWays_344 1 rfl ?_
    obtain ⟨o4, h⟩ := h
    refine j_iald E kb3 (by rw [lb3]; exact o4) dX12_countWays_345 ?_
    refine j_icmp_gt E 411 dX12_countWays_346 (by decide) (fun c5 => ?_) (fun c5 => ?_)
    · have h := h.1 c5
      refine j_iload E dX12_countWays_411 4 rfl ?_
      exact ju_ireturn E EU hc hb ⟨hx, hZ, hb, _, rfl, h⟩ dX12_countWays_413
    · have h := h.2 c5
      refine j_aload_n E dX12_countWays_349 0 rfl ?_
      obtain ⟨b6, eb6, kb6, lb6⟩ := sh_f hZ kv0 (j := 45) (k := 14) (m := 484000) rfl
      have h := h b6 eb6
      refine j_getr E 12 45 rfl rfl (by decide) (by decide) (iw iT_12) rfl rfl (tw W_867) kv0 eb6 dX12_countWays_350 ?_
      refine j_aload_n E dX12_countWays_353 0 rfl ?_
      refine j_geti E 12 0 rfl rfl (by decide) (by decide) (iw iT_12) rfl rfl (tw W_693) kv0 dX12_countWays_354 ?_
      refine j_iconst E (v := 4) dX12_countWays_357 (by decide) ?_
      refine j_irem E dX12_countWays_358 (by decide) ?_
      refine j_iload_n E dX12_countWays_359 3 rfl ?_
      refine j_imul E dX12_countWays_360 ?_
      refine j_iload E dX12_countWays_361 5 rfl ?_
      refine j_iadd E dX12_countWays_363 ?_
      refine j_sipush E (v := 1000) dX12_countWays_364 (by decide) ?_
      refine j_imul E dX12_countWays_367 ?_
      refine j_iload_n E dX12_countWays_368 2 rfl ?_
      refine j_iadd E dX12_countWays_369 ?_
      obtain ⟨o7, h⟩ := h
      refine j_iald E kb6 (by rw [lb6]; exact o7) dX12_countWays_370 ?_
      refine j_topi (fun x8 ex8 => ?_)
      have h := h x8 ex8
      refine j_istore E 6 [(6, .int x8), (0, .ref v0), (1, .int v1), (2, .int v2), (3, .int v3), (4, .int v4), (5, .int v5)] dX12_countWays_371 (by decide) rfl ?_
      refine j_iload E dX12_countWays_373 0 rfl ?_
      refine j_if_le E 398 dX12_countWays_375 (by decide) (fun c9 => ?_) (fun c9 => ?_)
      · have h := h.1 c9
        refine j_sub [1, 2, 3, 4, 5, 6, 0] rfl ?_
        exact m_X12_countWays_b398 E EU K338 hK338 v0 v1 v2 v3 v4 v5 x8 Z I L hZ hx hc hb kv0 h
      · have h := h.2 c9
        refine j_aload_n E dX12_countWays_378 1 rfl ?_
        refine j_geti E 12 46 rfl rfl (by decide) (by decide) (iw iT_12) rfl rfl (tw W_868) kv0 dX12_countWays_379 ?_
        refine j_iconst E (v := -1) dX12_countWays_382 (by decide) ?_
        refine j_icmp_ne E 398 dX12_countWays_383 (by decide) (fun c10 => ?_) (fun c10 => ?_)
        · have h := h.1 c10
          refine j_sub [1, 2, 3, 4, 5, 6, 0] rfl ?_
          exact m_X12_countWays_b398 E EU K338 hK338 v0 v1 v2 v3 v4 v5 x8 Z I L hZ hx hc hb kv0 h
        · have h := h.2 c10
          refine j_aload_n E dX12_countWays_386 1 rfl ?_
          refine j_iload E dX12_countWays_387 6 rfl ?_
          refine j_puti E 12 46 rfl rfl (by decide) (by decide) (iw iT_12) tyX12_ok nmX12 rfl rfl (tw W_868) rfl rfl rfl kv0 dX12_countWays_389 ?_
          refine j_nmI (fun I11 eI11 => ?_)
          have h := h I11 eI11
          refine j_aload_n E dX12_countWays_392 1 rfl ?_
          refine j_iload E dX12_countWays_393 0 rfl ?_
          refine j_puti E 12 47 rfl rfl (by decide) (by decide) (iw iT_12) tyX12_ok nmX12 rfl rfl (tw W_869) rfl rfl rfl kv0 dX12_countWays_395 ?_
          refine j_nmI (fun I12 eI12 => ?_)
          have h := h I12 eI12
          refine j_sub [1, 2, 3, 4, 5, 6, 0] rfl ?_
          exact m_X12_countWays_b398 E EU K338 hK338 v0 v1 v2 v3 v4 v5 x8 Z I12 L hZ hx hc hb kv0 h
set_option maxRecDepth 100000 in
def f_X12_countWays_b326 (B : Nat × Nat) (K90 : Nat → Int32 → Int32 → Int32 → Int32 → jZ → jI → jL → Prop) (Q : Int32 → jZ → jI → jL → Prop) (v0 : Nat) (v1 : Int32) (v2 : Int32) (v3 : Int32) (v4 : Int32) (Z : jZ) (I : jI) (L : jL) : Prop := (∀ x13 : Int32, x13 = v4 + 1 → K90 v0 v1 v2 v3 x13 Z I L)
set_option maxHeartbeats 4000000 in
set_option maxRecDepth 100000 in
theorem m_X12_countWays_b326 {G : jG} {B : Nat × Nat} {Z0 : jZ} {Q : Int32 → jZ → jI → jL → Prop} (E : jE G cX12_countWays RX12 w_X12_countWays 11 (some .int) (jrm B 106 2564 Z0) jRF) (EU : jEU G B Z0 (urtI B Z0 Q)) (K90 : Nat → Int32 → Int32 → Int32 → Int32 → jZ → jI → jL → Prop) (hK90 : ∀ (v0 : Nat) (v1 : Int32) (v2 : Int32) (v3 : Int32) (v4 : Int32) (Z : jZ) (I : jI) (L : jL), SH Z → jext Z0 Z → jle Z0 Z → jin B Z → jk Z v0 12 → K90 v0 v1 v2 v3 v4 Z I L → jJ G 11 90 [(0, .ref v0), (1, .int v1), (2, .int v2), (3, .int v3), (4, .int v4)] [] Z I L (jcz Z - jcz Z0) (jsz Z - jsz Z0)) (v0 : Nat) (v1 : Int32) (v2 : Int32) (v3 : Int32) (v4 : Int32) (Z : jZ) (I : jI) (L : jL) (hZ : SH Z) (hx : jext Z0 Z) (hc : jle Z0 Z) (hb : jin B Z) (kv0 : jk Z v0 12) (h : f_X12_countWays_b326 B K90 Q v0 v1 v2 v3 v4 Z I L) : jJ G 11 326 [(0, .ref v0), (1, .int v1), (2, .int v2), (3, .int v3), (4, .int v4)] [] Z I L (jcz Z - jcz Z0) (jsz Z - jsz Z0) := by
  obtain ⟨x13, ex13⟩ : ∃ y : Int32, y = v4 + 1 := ⟨_, rfl⟩
  have h := h x13 ex13
  refine j_iinc E x13 [(4, .int x13), (0, .ref v0), (1, .int v1), (2, .int v2), (3, .int v3)] dX12_countWays_326 4 rfl (by rw [ex13]; rfl) (by decide) rfl ?_
  refine j_goto E 90 dX12_countWays_329 (by decide) ?_
  refine j_sub [1, 2, 3, 4, 0] rfl ?_
  exact hK90 v0 v1 v2 v3 x13 Z I L hZ hx hc hb kv0 h
set_option maxRecDepth 100000 in
def f_X12_countWays_b320 (B : Nat × Nat) (K90 : Nat → Int32 → Int32 → Int32 → Int32 → jZ → jI → jL → Prop) (K165 : Nat → Int32 → Int32 → Int32 → Int32 → Int32 → Int32 → jZ → jI → jL → Prop) (Q : Int32 → jZ → jI → jL → Prop) (v0 : Nat) (v1 : Int32) (v2 : Int32) (v3 : Int32) (v4 : Int32) (v5 : Int32) (v6 : Int32) (Z : jZ) (I : jI) (L : jL) : Prop := (∀ x14 : Int32, x14 = v6 + 1 → K165 v0 v1 v2 v3 v4 v5 x14 Z I L)
set_option maxHeartbeats 4000000 in
set_option maxRecDepth 100000 in
theorem m_X12_countWays_b320 {G : jG} {B : Nat × Nat} {Z0 : jZ} {Q : Int32 → jZ → jI → jL → Prop} (E : jE G cX12_countWays RX12 w_X12_countWays 11 (some .int) (jrm B 106 2564 Z0) jRF) (EU : jEU G B Z0 (urtI B Z0 Q)) (K90 : Nat → Int32 → Int32 → Int32 → Int32 → jZ → jI → jL → Prop) (hK90 : ∀ (v0 : Nat) (v1 : Int32) (v2 : Int32) (v3 : Int32) (v4 : Int32) (Z : jZ) (I : jI) (L : jL), SH Z → jext Z0 Z → jle Z0 Z → jin B Z → jk Z v0 12 → K90 v0 v1 v2 v3 v4 Z I L → jJ G 11 90 [(0, .ref v0), (1, .int v1), (2, .int v2), (3, .int v3), (4, .int v4)] [] Z I L (jcz Z - jcz Z0) (jsz Z - jsz Z0)) (K165 : Nat → Int32 → Int32 → Int32 → Int32 → Int32 → Int32 → jZ → jI → jL → Prop) (hK165 : ∀ (v0 : Nat) (v1 : Int32) (v2 : Int32) (v3 : Int32) (v4 : Int32) (v5 : Int32) (v6 : Int32) (Z : jZ) (I : jI) (L : jL), SH Z → jext Z0 Z → jle Z0 Z → jin B Z → jk Z v0 12 → K165 v0 v1 v2 v3 v4 v5 v6 Z I L → jJ G 11 165 [(0, .ref v0), (1, .int v1), (2, .int v2), (3, .int v3), (4, .int v4), (5, .int v5), (6, .int v6)] [] Z I L (jcz Z - jcz Z0) (jsz Z - jsz Z0)) (v0 : Nat) (v1 : Int32) (v2 : Int32) (v3 : Int32) (v4 : Int32) (v5 : Int32) (v6 : Int32) (Z : jZ) (I : jI) (L : jL) (hZ : SH Z) (hx : jext Z0 Z) (hc : jle Z0 Z) (hb : jin B Z) (kv0 : jk Z v0 12) (h : f_X12_countWays_b320 B K90 K165 Q v0 v1 v2 v3 v4 v5 v6 Z I L) : jJ G 11 320 [(0, .ref v0), (1, .int v1), (2, .int v2), (3, .int v3), (4, .int v4), (5, .int v5), (6, .int v6)] [] Z I L (jcz Z - jcz Z0) (jsz Z - jsz Z0) := by
  obtain ⟨x14, ex14⟩ : ∃ y : Int32, y = v6 + 1 := ⟨_, rfl⟩
  have h := h x14 ex14
  refine j_iinc E x14 [(6, .int x14), (0, .ref v0), (1, .int v1), (2, .int v2), (3, .int v3), (4, .int v4), (5, .int v5)] dX12_countWays_320 6 rfl (by rw [ex14]; rfl) (by decide) rfl ?_
  refine j_goto E 165 dX12_countWays_323 (by decide) ?_
  refine j_sub [1, 2, 3, 4, 5, 6, 0] rfl ?_
  exact hK165 v0 v1 v2 v3 v4 v5 x14 Z I L hZ hx hc hb kv0 h
set_option maxRecDepth 100000 in
def f_X12_countWays_L241 (B : Nat × Nat) (K90 : Nat → Int32 → Int32 → Int32 → Int32 → jZ → jI → jL → Prop) (K165 : Nat → Int32 → Int32 → Int32 → Int32 → Int32 → Int32 → jZ → jI → jL → Prop) (K221 : Nat → Int32 → Int32 → Int32 → Int32 → Int32 → Int32 → Int32 → Int32 → Int32 → jZ → jI → jL → Prop) (Q : Int32 → jZ → jI → jL → Prop) : Nat → Nat → Int32 → Int32 → Int32 → Int32 → Int32 → Int32 → Int32 → Int32 → Int32 → Int32 → jZ → jI → jL → Prop
  | 0 => fun _ _ _ _ _ _ _ _ _ _ _ _ _ _ => False
  | n + 1 => fun v0 v1 v2 v3 v4 v5 v6 v7 v8 v9 v10 Z I L => ((v2 < v10 → (∀ x16 : Int32, x16 = v9 + 1 → K221 v0 v1 v2 v3 v4 v5 v6 v7 v8 x16 Z I L)) ∧ (¬ (v2 < v10) → (∀ b17 : Nat, jr Z v0 45 = some b17 → (vp_in (((((v5 - v5 / (4 : Int32) * (4 : Int32)) * v3) + v9) * (1000 : Int32)) + v10) 484000 ∧ (∀ b19 : Nat, jr Z v0 45 = some b19 → (∀ b20 : Nat, jr Z v0 38 = some b20 → (vp_in v8 75 ∧ (∀ b22 : Nat, jr Z v0 37 = some b22 → (vp_in v8 75 ∧ (vp_in (((((((v7 - v7 / (4 : Int32) * (4 : Int32)) * v3) + v9) - (I b20 v8.toNatClampNeg)) * (1000 : Int32)) + v10) - (I b22 v8.toNatClampNeg)) 484000 ∧ (vp_in (((((v5 - v5 / (4 : Int32) * (4 : Int32)) * v3) + v9) * (1000 : Int32)) + v10) 484000 ∧ (∀ I26 : jI, I26 = jpI I b17 (((((v5 - v5 / (4 : Int32) * (4 : Int32)) * v3) + v9) * (1000 : Int32)) + v10).toNatClampNeg ((I b17 (((((v5 - v5 / (4 : Int32) * (4 : Int32)) * v3) + v9) * (1000 : Int32)) + v10).toNatClampNeg) + (I b19 (((((((v7 - v7 / (4 : Int32) * (4 : Int32)) * v3) + v9) - (I b20 v8.toNatClampNeg)) * (1000 : Int32)) + v10) - (I b22 v8.toNatClampNeg)).toNatClampNeg)) → (∀ x27 : Int32, x27 = v10 + 1 → (f_X12_countWays_L241 B K90 K165 K221 Q n) v0 v1 v2 v3 v4 v5 v6 v7 v8 v9 x27 Z I26 L)))))))))))))
set_option maxHeartbeats 4000000 in
set_option maxRecDepth 100000 in
theorem m_X12_countWays_L241 {G : jG} {Z0 : jZ} {B : Nat × Nat} {Q : Int32 → jZ → jI → jL → Prop} (E : jE G cX12_countWays RX12 w_X12_countWays 11 (some .int) (jrm B 106 2564 Z0) jRF) (EU : jEU G B Z0 (urtI B Z0 Q)) (K90 : Nat → Int32 → Int32 → Int32 → Int32 → jZ → jI → jL → Prop) (hK90 : ∀ (v0 : Nat) (v1 : Int32) (v2 : Int32) (v3 : Int32) (v4 : Int32) (Z : jZ) (I : jI) (L : jL), SH Z → jext Z0 Z → jle Z0 Z → jin B Z → jk Z v0 12 → K90 v0 v1 v2 v3 v4 Z I L → jJ G 11 90 [(0, .ref v0), (1, .int v1), (2, .int v2), (3, .int v3), (4, .int v4)] [] Z I L (jcz Z - jcz Z0) (jsz Z - jsz Z0)) (K165 : Nat → Int32 → Int32 → Int32 → Int32 → Int32 → Int32 → jZ → jI → jL → Prop) (hK165 : ∀ (v0 : Nat) (v1 : Int32) (v2 : Int32) (v3 : Int32) (v4 : Int32) (v5 : Int32) (v6 : Int32) (Z : jZ) (I : jI) (L : jL), SH Z → jext Z0 Z → jle Z0 Z → jin B Z → jk Z v0 12 → K165 v0 v1 v2 v3 v4 v5 v6 Z I L → jJ G 11 165 [(0, .ref v0), (1, .int v1), (2, .int v2), (3, .int v3), (4, .int v4), (5, .int v5), (6, .int v6)] [] Z I L (jcz Z - jcz Z0) (jsz Z - jsz Z0)) (K221 : Nat → Int32 → Int32 → Int32 → Int32 → Int32 → Int32 → Int32 → Int32 → Int32 → jZ → jI → jL → Prop) (hK221 : ∀ (v0 : Nat) (v1 : Int32) (v2 : Int32) (v3 : Int32) (v4 : Int32) (v5 : Int32) (v6 : Int32) (v7 : Int32) (v8 : Int32) (v9 : Int32) (Z : jZ) (I : jI) (L : jL), SH Z → jext Z0 Z → jle Z0 Z → jin B Z → jk Z v0 12 → K221 v0 v1 v2 v3 v4 v5 v6 v7 v8 v9 Z I L → jJ G 11 221 [(0, .ref v0), (1, .int v1), (2, .int v2), (3, .int v3), (4, .int v4), (5, .int v5), (6, .int v6), (7, .int v7), (8, .int v8), (9, .int v9)] [] Z I L (jcz Z - jcz Z0) (jsz Z - jsz Z0)) : ∀ (n : Nat) (v0 : Nat) (v1 : Int32) (v2 : Int32) (v3 : Int32) (v4 : Int32) (v5 : Int32) (v6 : Int32) (v7 : Int32) (v8 : Int32) (v9 : Int32) (v10 : Int32) (Z : jZ) (I : jI) (L : jL), SH Z → jext Z0 Z → jle Z0 Z → jin B Z → jk Z v0 12 → f_X12_countWays_L241 B K90 K165 K221 Q n v0 v1 v2 v3 v4 v5 v6 v7 v8 v9 v10 Z I L → jJ G 11 241 [(0, .ref v0), (1, .int v1), (2, .int v2), (3, .int v3), (4, .int v4), (5, .int v5), (6, .int v6), (7, .int v7), (8, .int v8), (9, .int v9), (10, .int v10)] [] Z I L (jcz Z - jcz Z0) (jsz Z - jsz Z0) := by
  intro n
  induction n with
  | zero => intro v0 v1 v2 v3 v4 v5 v6 v7 v8 v9 v10 Z I L _ _ _ _ _ h; exact h.elim
  | succ n ih =>
    intro v0 v1 v2 v3 v4 v5 v6 v7 v8 v9 v10 Z I L hZ hx hc hb kv0 h
    have h : ((v2 < v10 → (∀ x16 : Int32, x16 = v9 + 1 → K221 v0 v1 v2 v3 v4 v5 v6 v7 v8 x16 Z I L)) ∧ (¬ (v2 < v10) → (∀ b17 : Nat, jr Z v0 45 = some b17 → (vp_in (((((v5 - v5 / (4 : Int32) * (4 : Int32)) * v3) + v9) * (1000 : Int32)) + v10) 484000 ∧ (∀ b19 : Nat, jr Z v0 45 = some b19 → (∀ b20 : Nat, jr Z v0 38 = some b20 → (vp_in v8 75 ∧ (∀ b22 : Nat, jr Z v0 37 = some b22 → (vp_in v8 75 ∧ (vp_in (((((((v7 - v7 / (4 : Int32) * (4 : Int32)) * v3) + v9) - (I b20 v8.toNatClampNeg)) * (1000 : Int32)) + v10) - (I b22 v8.toNatClampNeg)) 484000 ∧ (vp_in (((((v5 - v5 / (4 : Int32) * (4 : Int32)) * v3) + v9) * (1000 : Int32)) + v10) 484000 ∧ (∀ I26 : jI, I26 = jpI I b17 (((((v5 - v5 / (4 : Int32) * (4 : Int32)) * v3) + v9) * (1000 : Int32)) + v10).toNatClampNeg ((I b17 (((((v5 - v5 / (4 : Int32) * (4 : Int32)) * v3) + v9) * (1000 : Int32)) + v10).toNatClampNeg) + (I b19 (((((((v7 - v7 / (4 : Int32) * (4 : Int32)) * v3) + v9) - (I b20 v8.toNatClampNeg)) * (1000 : Int32)) + v10) - (I b22 v8.toNatClampNeg)).toNatClampNeg)) → (∀ x27 : Int32, x27 = v10 + 1 → (f_X12_countWays_L241 B K90 K165 K221 Q n) v0 v1 v2 v3 v4 v5 v6 v7 v8 v9 x27 Z I26 L))))))))))))) := h
    obtain ⟨K241, eK241⟩ : ∃ K : Nat → Int32 → Int32 → Int32 → Int32 → Int32 → Int32 → Int32 → Int32 → Int32 → Int32 → jZ → jI → jL → Prop, K = f_X12_countWays_L241 B K90 K165 K221 Q n := ⟨_, rfl⟩
    have hK241 := ih
    clear eK241 K241
    generalize f_X12_countWays_L241 B K90 K165 K221 Q n = K241 at hK241 h
    refine j_iload E dX12_countWays_241 10 rfl ?_
    refine j_iload_n E dX12_countWays_243 2 rfl ?_
    refine j_icmp_gt E 314 dX12_countWays_244 (by decide) (fun c15 => ?_) (fun c15 => ?_)
    · have h := h.1 c15
      obtain ⟨x16, ex16⟩ : ∃ y : Int32, y = v9 + 1 := ⟨_, rfl⟩
      have h := h x16 ex16
      refine j_iinc E x16 [(9, .int x16), (0, .ref v0), (1, .int v1), (2, .int v2), (3, .int v3), (4, .int v4), (5, .int v5), (6, .int v6), (7, .int v7), (8, .int v8), (10, .int v10)] dX12_countWays_314 9 rfl (by rw [ex16]; rfl) (by decide) rfl ?_
      refine j_goto E 221 dX12_countWays_317 (by decide) ?_
      refine j_sub [1, 2, 3, 4, 5, 6, 7, 8, 9, 0] rfl ?_
      exact hK221 v0 v1 v2 v3 v4 v5 v6 v7 v8 x16 Z I L hZ hx hc hb kv0 h
    · have h := h.2 c15
      refine j_aload_n E dX12_countWays_247 0 rfl ?_
      obtain ⟨b17, eb17, kb17, lb17⟩ := sh_f hZ kv0 (j := 45) (k := 14) (m := 484000) rfl
      have h := h b17 eb17
      refine j_getr E 12 45 rfl rfl (by decide) (by decide) (iw iT_12) rfl rfl (tw W_867) kv0 eb17 dX12_countWays_248 ?_
      refine j_iload E dX12_countWays_251 5 rfl ?_
      refine j_iconst E (v := 4) dX12_countWays_253 (by decide) ?_
      refine j_irem E dX12_countWays_254 (by decide) ?_
      refine j_iload_n E dX12_countWays_255 3 rfl ?_
      refine j_imul E dX12_countWays_256 ?_
      refine j_iload E dX12_countWays_257 9 rfl ?_
      refine j_iadd E dX12_countWays_259 ?_
      refine j_sipush E (v := 1000) dX12_countWays_260 (by decide) ?_
      refine j_imul E dX12_countWays_263 ?_
      refine j_iload E dX12_countWays_264 10 rfl ?_
      refine j_iadd E dX12_countWays_266 ?_
      refine j_dup2_11 E dX12_countWays_267 rfl rfl ?_
      obtain ⟨o18, h⟩ := h
      refine j_iald E kb17 (by rw [lb17]; exact o18) dX12_countWays_268 ?_
      refine j_aload_n E dX12_countWays_269 0 rfl ?_
      obtain ⟨b19, eb19, kb19, lb19⟩ := sh_f hZ kv0 (j := 45) (k := 14) (m := 484000) rfl
      have h := h b19 eb19
      refine j_getr E 12 45 rfl rfl (by decide) (by decide) (iw iT_12) rfl rfl (tw W_867) kv0 eb19 dX12_countWays_270 ?_
      refine j_iload E dX12_countWays_273 7 rfl ?_
      refine j_iconst E (v := 4) dX12_countWays_275 (by decide) ?_
      refine j_irem E dX12_countWays_276 (by decide) ?_
      refine j_iload_n E dX12_countWays_277 3 rfl ?_
      refine j_imul E dX12_countWays_278 ?_
      refine j_iload E dX12_countWays_279 9 rfl ?_
      refine j_iadd E dX12_countWays_281 ?_
      refine j_aload_n E dX12_countWays_282 0 rfl ?_
      obtain ⟨b20, eb20, kb20, lb20⟩ := sh_f hZ kv0 (j := 38) (k := 14) (m := 75) rfl
      have h := h b20 eb20
      refine j_getr E 12 38 rfl rfl (by decide) (by decide) (iw iT_12) rfl rfl (tw W_845) kv0 eb20 dX12_countWays_283 ?_
      refine j_iload E dX12_countWays_286 8 rfl ?_
      obtain ⟨o21, h⟩ := h
      refine j_iald E kb20 (by rw [lb20]; exact o21) dX12_countWays_288 ?_
      refine j_isub E dX12_countWays_289 ?_
      refine j_sipush E (v := 1000) dX12_countWays_290 (by decide) ?_
      refine j_imul E dX12_countWays_293 ?_
      refine j_iload E dX12_countWays_294 10 rfl ?_
      refine j_iadd E dX12_countWays_296 ?_
      refine j_aload_n E dX12_countWays_297 0 rfl ?_
      obtain ⟨b22, eb22, kb22, lb22⟩ := sh_f hZ kv0 (j := 37) (k := 14) (m := 75) rfl
      have h := h b22 eb22
      refine j_getr E 12 37 rfl rfl (by decide) (by decide) (iw iT_12) rfl rfl (tw W_842) kv0 eb22 dX12_countWays_298 ?_
      refine j_iload E dX12_countWays_301 8 rfl ?_
      obtain ⟨o23, h⟩ := h
      refine j_iald E kb22 (by rw [lb22]; exact o23) dX12_countWays_303 ?_
      refine j_isub E dX12_countWays_304 ?_
      obtain ⟨o24, h⟩ := h
      refine j_iald E kb19 (by rw [lb19]; exact o24) dX12_countWays_305 ?_
      refine j_iadd E dX12_countWays_306 ?_
      obtain ⟨o25, h⟩ := h
      refine j_iast E kb17 (by rw [lb17]; exact o25) dX12_countWays_307 ?_
      refine j_nmI (fun I26 eI26 => ?_)
      have h := h I26 eI26
      obtain ⟨x27, ex27⟩ : ∃ y : Int32, y = v10 + 1 := ⟨_, rfl⟩
      have h := h x27 ex27
      refine j_iinc E x27 [(10, .int x27), (0, .ref v0), (1, .int v1), (2, .int v2), (3, .int v3), (4, .int v4), (5, .int v5), (6, .int v6), (7, .int v7), (8, .int v8), (9, .int v9)] dX12_countWays_308 10 rfl (by rw [ex27]; rfl) (by decide) rfl ?_
      refine j_goto E 241 dX12_countWays_311 (by decide) ?_
      refine j_sub [1, 2, 3, 4, 5, 6, 7, 8, 9, 10, 0] rfl ?_
      exact hK241 v0 v1 v2 v3 v4 v5 v6 v7 v8 v9 x27 Z I26 L hZ hx hc hb kv0 h
set_option maxRecDepth 100000 in
def f_X12_countWays_L221 (B : Nat × Nat) (K90 : Nat → Int32 → Int32 → Int32 → Int32 → jZ → jI → jL → Prop) (K165 : Nat → Int32 → Int32 → Int32 → Int32 → Int32 → Int32 → jZ → jI → jL → Prop) (Q : Int32 → jZ → jI → jL → Prop) : Nat → Nat → Int32 → Int32 → Int32 → Int32 → Int32 → Int32 → Int32 → Int32 → Int32 → jZ → jI → jL → Prop
  | 0 => fun _ _ _ _ _ _ _ _ _ _ _ _ _ => False
  | n + 1 => fun v0 v1 v2 v3 v4 v5 v6 v7 v8 v9 Z I L => (∀ b28 : Nat, jr Z v0 9 = some b28 → (vp_in v1 6 ∧ (((I b28 v1.toNatClampNeg) < v9 → f_X12_countWays_b320 B K90 K165 Q v0 v1 v2 v3 v4 v5 v6 Z I L) ∧ (¬ ((I b28 v1.toNatClampNeg) < v9) → (∀ b31 : Nat, jr Z v0 37 = some b31 → (vp_in v8 75 ∧ (∀ x33 : Int32, x33 = (I b31 v8.toNatClampNeg) → (∃ m241 : Nat, f_X12_countWays_L241 B K90 K165 (f_X12_countWays_L221 B K90 K165 Q n) Q m241 v0 v1 v2 v3 v4 v5 v6 v7 v8 v9 x33 Z I L))))))))
set_option maxHeartbeats 4000000 in
set_option maxRecDepth 100000 in
theorem m_X12_countWays_L221 {G : jG} {Z0 : jZ} {B : Nat × Nat} {Q : Int32 → jZ → jI → jL → Prop} (E : jE G cX12_countWays RX12 w_X12_countWays 11 (some .int) (jrm B 106 2564 Z0) jRF) (EU : jEU G B Z0 (urtI B Z0 Q)) (K90 : Nat → Int32 → Int32 → Int32 → Int32 → jZ → jI → jL → Prop) (hK90 : ∀ (v0 : Nat) (v1 : Int32) (v2 : Int32) (v3 : Int32) (v4 : Int32) (Z : jZ) (I : jI) (L : jL), SH Z → jext Z0 Z → jle Z0 Z → jin B Z → jk Z v0 12 → K90 v0 v1 v2 v3 v4 Z I L → jJ G 11 90 [(0, .ref v0), (1, .int v1), (2, .int v2), (3, .int v3), (4, .int v4)] [] Z I L (jcz Z - jcz Z0) (jsz Z - jsz Z0)) (K165 : Nat → Int32 → Int32 → Int32 → Int32 → Int32 → Int32 → jZ → jI → jL → Prop) (hK165 : ∀ (v0 : Nat) (v1 : Int32) (v2 : Int32) (v3 : Int32) (v4 : Int32) (v5 : Int32) (v6 : Int32) (Z : jZ) (I : jI) (L : jL), SH Z → jext Z0 Z → jle Z0 Z → jin B Z → jk Z v0 12 → K165 v0 v1 v2 v3 v4 v5 v6 Z I L → jJ G 11 165 [(0, .ref v0), (1, .int v1), (2, .int v2), (3, .int v3), (4, .int v4), (5, .int v5), (6, .int v6)] [] Z I L (jcz Z - jcz Z0) (jsz Z - jsz Z0)) : ∀ (n : Nat) (v0 : Nat) (v1 : Int32) (v2 : Int32) (v3 : Int32) (v4 : Int32) (v5 : Int32) (v6 : Int32) (v7 : Int32) (v8 : Int32) (v9 : Int32) (Z : jZ) (I : jI) (L : jL), SH Z → jext Z0 Z → jle Z0 Z → jin B Z → jk Z v0 12 → f_X12_countWays_L221 B K90 K165 Q n v0 v1 v2 v3 v4 v5 v6 v7 v8 v9 Z I L → jJ G 11 221 [(0, .ref v0), (1, .int v1), (2, .int v2), (3, .int v3), (4, .int v4), (5, .int v5), (6, .int v6), (7, .int v7), (8, .int v8), (9, .int v9)] [] Z I L (jcz Z - jcz Z0) (jsz Z - jsz Z0) := by
  intro n
  induction n with
  | zero => intro v0 v1 v2 v3 v4 v5 v6 v7 v8 v9 Z I L _ _ _ _ _ h; exact h.elim
  | succ n ih =>
    intro v0 v1 v2 v3 v4 v5 v6 v7 v8 v9 Z I L hZ hx hc hb kv0 h
    have h : (∀ b28 : Nat, jr Z v0 9 = some b28 → (vp_in v1 6 ∧ (((I b28 v1.toNatClampNeg) < v9 → f_X12_countWays_b320 B K90 K165 Q v0 v1 v2 v3 v4 v5 v6 Z I L) ∧ (¬ ((I b28 v1.toNatClampNeg) < v9) → (∀ b31 : Nat, jr Z v0 37 = some b31 → (vp_in v8 75 ∧ (∀ x33 : Int32, x33 = (I b31 v8.toNatClampNeg) → (∃ m241 : Nat, f_X12_countWays_L241 B K90 K165 (f_X12_countWays_L221 B K90 K165 Q n) Q m241 v0 v1 v2 v3 v4 v5 v6 v7 v8 v9 x33 Z I L)))))))) := h
    obtain ⟨K221, eK221⟩ : ∃ K : Nat → Int32 → Int32 → Int32 → Int32 → Int32 → Int32 → Int32 → Int32 → Int32 → jZ → jI → jL → Prop, K = f_X12_countWays_L221 B K90 K165 Q n := ⟨_, rfl⟩
    have hK221 := ih
    clear eK221 K221
    generalize f_X12_countWays_L221 B K90 K165 Q n = K221 at hK221 h
    refine j_iload E dX12_countWays_221 9 rfl ?_
    refine j_aload_n E dX12_countWays_223 0 rfl ?_
    obtain ⟨b28, eb28, kb28, lb28⟩ := sh_f hZ kv0 (j := 9) (k := 14) (m := 6) rfl
    have h := h b28 eb28
    refine j_getr E 12 9 rfl rfl (by decide) (by decide) (iw iT_12) rfl rfl (tw W_734) kv0 eb28 dX12_countWays_224 ?_
    refine j_iload_n E dX12_countWays_227 1 rfl ?_
    obtain ⟨o29, h⟩ := h
    refine j_iald E kb28 (by rw [lb28]; exact o29) dX12_countWays_228 ?_
    refine j_icmp_gt E 320 dX12_countWays_229 (by decide) (fun c30 => ?_) (fun c30 => ?_)
    · have h := h.1 c30
      refine j_sub [0, 1, 2, 3, 4, 5, 6] rfl ?_
      exact m_X12_countWays_b320 E EU K90 hK90 K165 hK165 v0 v1 v2 v3 v4 v5 v6 Z I L hZ hx hc hb kv0 h
    · have h := h.2 c30
      refine j_aload_n E dX12_countWays_232 0 rfl ?_
      obtain ⟨b31, eb31, kb31, lb31⟩ := sh_f hZ kv0 (j := 37) (k := 14) (m := 75) rfl
      have h := h b31 eb31
      refine j_getr E 12 37 rfl rfl (by decide) (by decide) (iw iT_12) rfl rfl (tw W_842) kv0 eb31 dX12_countWays_233 ?_
      refine j_iload E dX12_countWays_236 8 rfl ?_
      obtain ⟨o32, h⟩ := h
      refine j_iald E kb31 (by rw [lb31]; exact o32) dX12_countWays_238 ?_
      refine j_topi (fun x33 ex33 => ?_)
      have h := h x33 ex33
      refine j_istore E 10 [(10, .int x33), (0, .ref v0), (1, .int v1), (2, .int v2), (3, .int v3), (4, .int v4), (5, .int v5), (6, .int v6), (7, .int v7), (8, .int v8), (9, .int v9)] dX12_countWays_239 (by decide) rfl ?_
      obtain ⟨n34, h⟩ := h
      refine j_sub [1, 2, 3, 4, 5, 6, 7, 8, 9, 10, 0] rfl ?_
      exact m_X12_countWays_L241 E EU K90 hK90 K165 hK165 K221 hK221 n34 v0 v1 v2 v3 v4 v5 v6 v7 v8 v9 x33 Z I L hZ hx hc hb kv0 h
set_option maxRecDepth 100000 in
def f_X12_countWays_L165 (B : Nat × Nat) (K90 : Nat → Int32 → Int32 → Int32 → Int32 → jZ → jI → jL → Prop) (Q : Int32 → jZ → jI → jL → Prop) : Nat → Nat → Int32 → Int32 → Int32 → Int32 → Int32 → Int32 → jZ → jI → jL → Prop
  | 0 => fun _ _ _ _ _ _ _ _ _ _ => False
  | n + 1 => fun v0 v1 v2 v3 v4 v5 v6 Z I L => (((3 : Int32) < v6 → f_X12_countWays_b326 B K90 Q v0 v1 v2 v3 v4 Z I L) ∧ (¬ ((3 : Int32) < v6) → ((v5 < v6 → f_X12_countWays_b326 B K90 Q v0 v1 v2 v3 v4 Z I L) ∧ (¬ (v5 < v6) → (∀ x37 : Int32, x37 = (v5 - v6) → (∀ x38 : Int32, x38 = ((((3 : Int32) * x37) + v6) - (1 : Int32)) → (∀ b39 : Nat, jr Z v0 37 = some b39 → (vp_in x38 75 ∧ ((¬ (I b39 x38.toNatClampNeg) = (1000000000 : Int32) → (∀ b42 : Nat, jr Z v0 38 = some b42 → (vp_in x38 75 ∧ (∀ x44 : Int32, x44 = (I b42 x38.toNatClampNeg) → (∃ m221 : Nat, f_X12_countWays_L221 B K90 (f_X12_countWays_L165 B K90 Q n) Q m221 v0 v1 v2 v3 v4 v5 v6 x37 x38 x44 Z I L))))) ∧ ((I b39 x38.toNatClampNeg) = (1000000000 : Int32) → f_X12_countWays_b320 B K90 (f_X12_countWays_L165 B K90 Q n) Q v0 v1 v2 v3 v4 v5 v6 Z I L))))))))))
set_option maxHeartbeats 4000000 in
set_option maxRecDepth 100000 in
theorem m_X12_countWays_L165 {G : jG} {Z0 : jZ} {B : Nat × Nat} {Q : Int32 → jZ → jI → jL → Prop} (E : jE G cX12_countWays RX12 w_X12_countWays 11 (some .int) (jrm B 106 2564 Z0) jRF) (EU : jEU G B Z0 (urtI B Z0 Q)) (K90 : Nat → Int32 → Int32 → Int32 → Int32 → jZ → jI → jL → Prop) (hK90 : ∀ (v0 : Nat) (v1 : Int32) (v2 : Int32) (v3 : Int32) (v4 : Int32) (Z : jZ) (I : jI) (L : jL), SH Z → jext Z0 Z → jle Z0 Z → jin B Z → jk Z v0 12 → K90 v0 v1 v2 v3 v4 Z I L → jJ G 11 90 [(0, .ref v0), (1, .int v1), (2, .int v2), (3, .int v3), (4, .int v4)] [] Z I L (jcz Z - jcz Z0) (jsz Z - jsz Z0)) : ∀ (n : Nat) (v0 : Nat) (v1 : Int32) (v2 : Int32) (v3 : Int32) (v4 : Int32) (v5 : Int32) (v6 : Int32) (Z : jZ) (I : jI) (L : jL), SH Z → jext Z0 Z → jle Z0 Z → jin B Z → jk Z v0 12 → f_X12_countWays_L165 B K90 Q n v0 v1 v2 v3 v4 v5 v6 Z I L → jJ G 11 165 [(0, .ref v0), (1, .int v1), (2, .int v2), (3, .int v3), (4, .int v4), (5, .int v5), (6, .int v6)] [] Z I L (jcz Z - jcz Z0) (jsz Z - jsz Z0) := by
  intro n
  induction n with
  | zero => intro v0 v1 v2 v3 v4 v5 v6 Z I L _ _ _ _ _ h; exact h.elim
  | succ n ih =>
    intro v0 v1 v2 v3 v4 v5 v6 Z I L hZ hx hc hb kv0 h
    have h : (((3 : Int32) < v6 → f_X12_countWays_b326 B K90 Q v0 v1 v2 v3 v4 Z I L) ∧ (¬ ((3 : Int32) < v6) → ((v5 < v6 → f_X12_countWays_b326 B K90 Q v0 v1 v2 v3 v4 Z I L) ∧ (¬ (v5 < v6) → (∀ x37 : Int32, x37 = (v5 - v6) → (∀ x38 : Int32, x38 = ((((3 : Int32) * x37) + v6) - (1 : Int32)) → (∀ b39 : Nat, jr Z v0 37 = some b39 → (vp_in x38 75 ∧ ((¬ (I b39 x38.toNatClampNeg) = (1000000000 : Int32) → (∀ b42 : Nat, jr Z v0 38 = some b42 → (vp_in x38 75 ∧ (∀ x44 : Int32, x44 = (I b42 x38.toNatClampNeg) → (∃ m221 : Nat, f_X12_countWays_L221 B K90 (f_X12_countWays_L165 B K90 Q n) Q m221 v0 v1 v2 v3 v4 v5 v6 x37 x38 x44 Z I L))))) ∧ ((I b39 x38.toNatClampNeg) = (1000000000 : Int32) → f_X12_countWays_b320 B K90 (f_X12_countWays_L165 B K90 Q n) Q v0 v1 v2 v3 v4 v5 v6 Z I L)))))))))) := h
    obtain ⟨K165, eK165⟩ : ∃ K : Nat → Int32 → Int32 → Int32 → Int32 → Int32 → Int32 → jZ → jI → jL → Prop, K = f_X12_countWays_L165 B K90 Q n := ⟨_, rfl⟩
    have hK165 := ih
    clear eK165 K165
    generalize f_X12_countWays_L165 B K90 Q n = K165 at hK165 h
    refine j_iload E dX12_countWays_165 6 rfl ?_
    refine j_iconst E (v := 3) dX12_countWays_167 (by decide) ?_
    refine j_icmp_gt E 326 dX12_countWays_168 (by decide) (fun c35 => ?_) (fun c35 => ?_)
    · have h := h.1 c35
      refine j_sub [0, 1, 2, 3, 4] rfl ?_
      exact m_X12_countWays_b326 E EU K90 hK90 v0 v1 v2 v3 v4 Z I L hZ hx hc hb kv0 h
    · have h := h.2 c35
      refine j_iload E dX12_countWays_171 6 rfl ?_
      refine j_iload E dX12_countWays_173 5 rfl ?_
      refine j_icmp_gt E 326 dX12_countWays_175 (by decide) (fun c36 => ?_) (fun c36 => ?_)
      · have h := h.1 c36
        refine j_sub [0, 1, 2, 3, 4] rfl ?_
        exact m_X12_countWays_b326 E EU K90 hK90 v0 v1 v2 v3 v4 Z I L hZ hx hc hb kv0 h
      · have h := h.2 c36
        refine j_iload E dX12_countWays_178 5 rfl ?_
        refine j_iload E dX12_countWays_180 6 rfl ?_
        refine j_isub E dX12_countWays_182 ?_
        refine j_topi (fun x37 ex37 => ?_)
        have h := h x37 ex37
        refine j_istore E 7 [(7, .int x37), (0, .ref v0), (1, .int v1), (2, .int v2), (3, .int v3), (4, .int v4), (5, .int v5), (6, .int v6)] dX12_countWays_183 (by decide) rfl ?_
        refine j_iconst E (v := 3) dX12_countWays_185 (by decide) ?_
        refine j_iload E dX12_countWays_186 0 rfl ?_
        refine j_imul E dX12_countWays_188 ?_
        refine j_iload E dX12_countWays_189 7 rfl ?_
        refine j_iadd E dX12_countWays_191 ?_
        refine j_iconst E (v := 1) dX12_countWays_192 (by decide) ?_
        refine j_isub E dX12_countWays_193 ?_
        refine j_topi (fun x38 ex38 => ?_)
        have h := h x38 ex38
        refine j_istore E 8 [(8, .int x38), (7, .int x37), (0, .ref v0), (1, .int v1), (2, .int v2), (3, .int v3), (4, .int v4), (5, .int v5), (6, .int v6)] dX12_countWays_194 (by decide) rfl ?_
        refine j_aload_n E dX12_countWays_196 2 rfl ?_
        obtain ⟨b39, eb39, kb39, lb39⟩ := sh_f hZ kv0 (j := 37) (k := 14) (m := 75) rfl
        have h := h b39 eb39
        refine j_getr E 12 37 rfl rfl (by decide) (by decide) (iw iT_12) rfl rfl (tw W_842) kv0 eb39 dX12_countWays_197 ?_
        refine j_iload E dX12_countWays_200 0 rfl ?_
        obtain ⟨o40, h⟩ := h
        refine j_iald E kb39 (by rw [lb39]; exact o40) dX12_countWays_202 ?_
        refine j_ldcw E (tw W_843) dX12_countWays_203 ?_
        refine j_icmp_ne E 212 dX12_countWays_206 (by decide) (fun c41 => ?_) (fun c41 => ?_)
        · have h := h.1 c41
          refine j_aload_n E dX12_countWays_212 2 rfl ?_
          obtain ⟨b42, eb42, kb42, lb42⟩ := sh_f hZ kv0 (j := 38) (k := 14) (m := 75) rfl
          have h := h b42 eb42
          refine j_getr E 12 38 rfl rfl (by decide) (by decide) (iw iT_12) rfl rfl (tw W_845) kv0 eb42 dX12_countWays_213 ?_
          refine j_iload E dX12_countWays_216 0 rfl ?_
          obtain ⟨o43, h⟩ := h
          refine j_iald E kb42 (by rw [lb42]; exact o43) dX12_countWays_218 ?_
          refine j_topi (fun x44 ex44 => ?_)
          have h := h x44 ex44
          refine j_istore E 9 [(9, .int x44), (8, .int x38), (7, .int x37), (0, .ref v0), (1, .int v1), (2, .int v2), (3, .int v3), (4, .int v4), (5, .int v5), (6, .int v6)] dX12_countWays_219 (by decide) rfl ?_
          obtain ⟨n45, h⟩ := h
          refine j_sub [3, 4, 5, 6, 7, 8, 9, 2, 1, 0] rfl ?_
          exact m_X12_countWays_L221 E EU K90 hK90 K165 hK165 n45 v0 v1 v2 v3 v4 v5 v6 x37 x38 x44 Z I L hZ hx hc hb kv0 h
        · have h := h.2 c41
          refine j_goto E 320 dX12_countWays_209 (by decide) ?_
          refine j_sub [2, 3, 4, 5, 6, 7, 8] rfl ?_
          exact m_X12_countWays_b320 E EU K90 hK90 K165 hK165 v0 v1 v2 v3 v4 v5 v6 Z I L hZ hx hc hb kv0 h
set_option maxRecDepth 100000 in
def f_X12_countWays_L122 (B : Nat × Nat) (K90 : Nat → Int32 → Int32 → Int32 → Int32 → jZ → jI → jL → Prop) (K108 : Nat → Int32 → Int32 → Int32 → Int32 → Int32 → Int32 → jZ → jI → jL → Prop) (Q : Int32 → jZ → jI → jL → Prop) : Nat → Nat → Int32 → Int32 → Int32 → Int32 → Int32 → Int32 → Int32 → jZ → jI → jL → Prop
  | 0 => fun _ _ _ _ _ _ _ _ _ _ _ => False
  | n + 1 => fun v0 v1 v2 v3 v4 v5 v6 v7 Z I L => ((v2 < v7 → (∀ x47 : Int32, x47 = v6 + 1 → K108 v0 v1 v2 v3 v4 v5 x47 Z I L)) ∧ (¬ (v2 < v7) → (∀ b48 : Nat, jr Z v0 45 = some b48 → (vp_in (((((v5 - v5 / (4 : Int32) * (4 : Int32)) * v3) + v6) * (1000 : Int32)) + v7) 484000 ∧ (∀ I50 : jI, I50 = jpI I b48 (((((v5 - v5 / (4 : Int32) * (4 : Int32)) * v3) + v6) * (1000 : Int32)) + v7).toNatClampNeg (0 : Int32) → (∀ x51 : Int32, x51 = v7 + 1 → (f_X12_countWays_L122 B K90 K108 Q n) v0 v1 v2 v3 v4 v5 v6 x51 Z I50 L))))))
set_option maxHeartbeats 4000000 in
set_option maxRecDepth 100000 in
theorem m_X12_countWays_L122 {G : jG} {Z0 : jZ} {B : Nat × Nat} {Q : Int32 → jZ → jI → jL → Prop} (E : jE G cX12_countWays RX12 w_X12_countWays 11 (some .int) (jrm B 106 2564 Z0) jRF) (EU : jEU G B Z0 (urtI B Z0 Q)) (K90 : Nat → Int32 → Int32 → Int32 → Int32 → jZ → jI → jL → Prop) (hK90 : ∀ (v0 : Nat) (v1 : Int32) (v2 : Int32) (v3 : Int32) (v4 : Int32) (Z : jZ) (I : jI) (L : jL), SH Z → jext Z0 Z → jle Z0 Z → jin B Z → jk Z v0 12 → K90 v0 v1 v2 v3 v4 Z I L → jJ G 11 90 [(0, .ref v0), (1, .int v1), (2, .int v2), (3, .int v3), (4, .int v4)] [] Z I L (jcz Z - jcz Z0) (jsz Z - jsz Z0)) (K108 : Nat → Int32 → Int32 → Int32 → Int32 → Int32 → Int32 → jZ → jI → jL → Prop) (hK108 : ∀ (v0 : Nat) (v1 : Int32) (v2 : Int32) (v3 : Int32) (v4 : Int32) (v5 : Int32) (v6 : Int32) (Z : jZ) (I : jI) (L : jL), SH Z → jext Z0 Z → jle Z0 Z → jin B Z → jk Z v0 12 → K108 v0 v1 v2 v3 v4 v5 v6 Z I L → jJ G 11 108 [(0, .ref v0), (1, .int v1), (2, .int v2), (3, .int v3), (4, .int v4), (5, .int v5), (6, .int v6)] [] Z I L (jcz Z - jcz Z0) (jsz Z - jsz Z0)) : ∀ (n : Nat) (v0 : Nat) (v1 : Int32) (v2 : Int32) (v3 : Int32) (v4 : Int32) (v5 : Int32) (v6 : Int32) (v7 : Int32) (Z : jZ) (I : jI) (L : jL), SH Z → jext Z0 Z → jle Z0 Z → jin B Z → jk Z v0 12 → f_X12_countWays_L122 B K90 K108 Q n v0 v1 v2 v3 v4 v5 v6 v7 Z I L → jJ G 11 122 [(0, .ref v0), (1, .int v1), (2, .int v2), (3, .int v3), (4, .int v4), (5, .int v5), (6, .int v6), (7, .int v7)] [] Z I L (jcz Z - jcz Z0) (jsz Z - jsz Z0) := by
  intro n
  induction n with
  | zero => intro v0 v1 v2 v3 v4 v5 v6 v7 Z I L _ _ _ _ _ h; exact h.elim
  | succ n ih =>
    intro v0 v1 v2 v3 v4 v5 v6 v7 Z I L hZ hx hc hb kv0 h
    have h : ((v2 < v7 → (∀ x47 : Int32, x47 = v6 + 1 → K108 v0 v1 v2 v3 v4 v5 x47 Z I L)) ∧ (¬ (v2 < v7) → (∀ b48 : Nat, jr Z v0 45 = some b48 → (vp_in (((((v5 - v5 / (4 : Int32) * (4 : Int32)) * v3) + v6) * (1000 : Int32)) + v7) 484000 ∧ (∀ I50 : jI, I50 = jpI I b48 (((((v5 - v5 / (4 : Int32) * (4 : Int32)) * v3) + v6) * (1000 : Int32)) + v7).toNatClampNeg (0 : Int32) → (∀ x51 : Int32, x51 = v7 + 1 → (f_X12_countWays_L122 B K90 K108 Q n) v0 v1 v2 v3 v4 v5 v6 x51 Z I50 L)))))) := h
    obtain ⟨K122, eK122⟩ : ∃ K : Nat → Int32 → Int32 → Int32 → Int32 → Int32 → Int32 → Int32 → jZ → jI → jL → Prop, K = f_X12_countWays_L122 B K90 K108 Q n := ⟨_, rfl⟩
    have hK122 := ih
    clear eK122 K122
    generalize f_X12_countWays_L122 B K90 K108 Q n = K122 at hK122 h
    refine j_iload E dX12_countWays_122 7 rfl ?_
    refine j_iload_n E dX12_countWays_124 2 rfl ?_
    refine j_icmp_gt E 156 dX12_countWays_125 (by decide) (fun c46 => ?_) (fun c46 => ?_)
    · have h := h.1 c46
      obtain ⟨x47, ex47⟩ : ∃ y : Int32, y = v6 + 1 := ⟨_, rfl⟩
      have h := h x47 ex47
      refine j_iinc E x47 [(6, .int x47), (0, .ref v0), (1, .int v1), (2, .int v2), (3, .int v3), (4, .int v4), (5, .int v5), (7, .int v7)] dX12_countWays_156 6 rfl (by rw [ex47]; rfl) (by decide) rfl ?_
      refine j_goto E 108 dX12_countWays_159 (by decide) ?_
      refine j_sub [1, 2, 3, 4, 5, 6, 0] rfl ?_
      exact hK108 v0 v1 v2 v3 v4 v5 x47 Z I L hZ hx hc hb kv0 h
    · have h := h.2 c46
      refine j_aload_n E dX12_countWays_128 0 rfl ?_
      obtain ⟨b48, eb48, kb48, lb48⟩ := sh_f hZ kv0 (j := 45) (k := 14) (m := 484000) rfl
      have h := h b48 eb48
      refine j_getr E 12 45 rfl rfl (by decide) (by decide) (iw iT_12) rfl rfl (tw W_867) kv0 eb48 dX12_countWays_129 ?_
      refine j_iload E dX12_countWays_132 5 rfl ?_
      refine j_iconst E (v := 4) dX12_countWays_134 (by decide) ?_
      refine j_irem E dX12_countWays_135 (by decide) ?_
      refine j_iload_n E dX12_countWays_136 3 rfl ?_
      refine j_imul E dX12_countWays_137 ?_
      refine j_iload E dX12_countWays_138 6 rfl ?_
      refine j_iadd E dX12_countWays_140 ?_
      refine j_sipush E (v := 1000) dX12_countWays_141 (by decide) ?_
      refine j_imul E dX12_countWays_144 ?_
      refine j_iload E dX12_countWays_145 7 rfl ?_
      refine j_iadd E dX12_countWays_147 ?_
      refine j_iconst E (v := 0) dX12_countWays_148 (by decide) ?_
      obtain ⟨o49, h⟩ := h
      refine j_iast E kb48 (by rw [lb48]; exact o49) dX12_countWays_149 ?_
      refine j_nmI (fun I50 eI50 => ?_)
      have h := h I50 eI50
      obtain ⟨x51, ex51⟩ : ∃ y : Int32, y = v7 + 1 := ⟨_, rfl⟩
      have h := h x51 ex51
      refine j_iinc E x51 [(7, .int x51), (0, .ref v0), (1, .int v1), (2, .int v2), (3, .int v3), (4, .int v4), (5, .int v5), (6, .int v6)] dX12_countWays_150 7 rfl (by rw [ex51]; rfl) (by decide) rfl ?_
      refine j_goto E 122 dX12_countWays_153 (by decide) ?_
      refine j_sub [1, 2, 3, 4, 5, 6, 7, 0] rfl ?_
      exact hK122 v0 v1 v2 v3 v4 v5 v6 x51 Z I50 L hZ hx hc hb kv0 h
set_option maxRecDepth 100000 in
def f_X12_countWays_L108 (B : Nat × Nat) (K90 : Nat → Int32 → Int32 → Int32 → Int32 → jZ → jI → jL → Prop) (Q : Int32 → jZ → jI → jL → Prop) : Nat → Nat → Int32 → Int32 → Int32 → Int32 → Int32 → Int32 → jZ → jI → jL → Prop
  | 0 => fun _ _ _ _ _ _ _ _ _ _ => False
  | n + 1 => fun v0 v1 v2 v3 v4 v5 v6 Z I L => (∀ b52 : Nat, jr Z v0 9 = some b52 → (vp_in v1 6 ∧ (((I b52 v1.toNatClampNeg) < v6 → (∃ m165 : Nat, f_X12_countWays_L165 B K90 Q m165 v0 v1 v2 v3 v4 v5 (1 : Int32) Z I L)) ∧ (¬ ((I b52 v1.toNatClampNeg) < v6) → (∃ m122 : Nat, f_X12_countWays_L122 B K90 (f_X12_countWays_L108 B K90 Q n) Q m122 v0 v1 v2 v3 v4 v5 v6 (0 : Int32) Z I L)))))
set_option maxHeartbeats 4000000 in
set_option maxRecDepth 100000 in
theorem m_X12_countWays_L108 {G : jG} {Z0 : jZ} {B : Nat × Nat} {Q : Int32 → jZ → jI → jL → Prop} (E : jE G cX12_countWays RX12 w_X12_countWays 11 (some .int) (jrm B 106 2564 Z0) jRF) (EU : jEU G B Z0 (urtI B Z0 Q)) (K90 : Nat → Int32 → Int32 → Int32 → Int32 → jZ → jI → jL → Prop) (hK90 : ∀ (v0 : Nat) (v1 : Int32) (v2 : Int32) (v3 : Int32) (v4 : Int32) (Z : jZ) (I : jI) (L : jL), SH Z → jext Z0 Z → jle Z0 Z → jin B Z → jk Z v0 12 → K90 v0 v1 v2 v3 v4 Z I L → jJ G 11 90 [(0, .ref v0), (1, .int v1), (2, .int v2), (3, .int v3), (4, .int v4)] [] Z I L (jcz Z - jcz Z0) (jsz Z - jsz Z0)) : ∀ (n : Nat) (v0 : Nat) (v1 : Int32) (v2 : Int32) (v3 : Int32) (v4 : Int32) (v5 : Int32) (v6 : Int32) (Z : jZ) (I : jI) (L : jL), SH Z → jext Z0 Z → jle Z0 Z → jin B Z → jk Z v0 12 → f_X12_countWays_L108 B K90 Q n v0 v1 v2 v3 v4 v5 v6 Z I L → jJ G 11 108 [(0, .ref v0), (1, .int v1), (2, .int v2), (3, .int v3), (4, .int v4), (5, .int v5), (6, .int v6)] [] Z I L (jcz Z - jcz Z0) (jsz Z - jsz Z0) := by
  intro n
  induction n with
  | zero => intro v0 v1 v2 v3 v4 v5 v6 Z I L _ _ _ _ _ h; exact h.elim
  | succ n ih =>
    intro v0 v1 v2 v3 v4 v5 v6 Z I L hZ hx hc hb kv0 h
    have h : (∀ b52 : Nat, jr Z v0 9 = some b52 → (vp_in v1 6 ∧ (((I b52 v1.toNatClampNeg) < v6 → (∃ m165 : Nat, f_X12_countWays_L165 B K90 Q m165 v0 v1 v2 v3 v4 v5 (1 : Int32) Z I L)) ∧ (¬ ((I b52 v1.toNatClampNeg) < v6) → (∃ m122 : Nat, f_X12_countWays_L122 B K90 (f_X12_countWays_L108 B K90 Q n) Q m122 v0 v1 v2 v3 v4 v5 v6 (0 : Int32) Z I L))))) := h
    obtain ⟨K108, eK108⟩ : ∃ K : Nat → Int32 → Int32 → Int32 → Int32 → Int32 → Int32 → jZ → jI → jL → Prop, K = f_X12_countWays_L108 B K90 Q n := ⟨_, rfl⟩
    have hK108 := ih
    clear eK108 K108
    generalize f_X12_countWays_L108 B K90 Q n = K108 at hK108 h
    refine j_iload E dX12_countWays_108 6 rfl ?_
    refine j_aload_n E dX12_countWays_110 0 rfl ?_
    obtain ⟨b52, eb52, kb52, lb52⟩ := sh_f hZ kv0 (j := 9) (k := 14) (m := 6) rfl
    have h := h b52 eb52
    refine j_getr E 12 9 rfl rfl (by decide) (by decide) (iw iT_12) rfl rfl (tw W_734) kv0 eb52 dX12_countWays_111 ?_
    refine j_iload_n E dX12_countWays_114 1 rfl ?_
    obtain ⟨o53, h⟩ := h
    refine j_iald E kb52 (by rw [lb52]; exact o53) dX12_countWays_115 ?_
    refine j_icmp_gt E 162 dX12_countWays_116 (by decide) (fun c54 => ?_) (fun c54 => ?_)
    · have h := h.1 c54
      refine j_iconst E (v := 1) dX12_countWays_162 (by decide) ?_
      refine j_istore E 6 [(6, .int (1 : Int32)), (0, .ref v0), (1, .int v1), (2, .int v2), (3, .int v3), (4, .int v4), (5, .int v5)] dX12_countWays_163 (by decide) rfl ?_
      obtain ⟨n55, h⟩ := h
      refine j_sub [1, 2, 3, 4, 5, 6, 0] rfl ?_
      exact m_X12_countWays_L165 E EU K90 hK90 n55 v0 v1 v2 v3 v4 v5 (1 : Int32) Z I L hZ hx hc hb kv0 h
    · have h := h.2 c54
      refine j_iconst E (v := 0) dX12_countWays_119 (by decide) ?_
      refine j_istore E 7 [(7, .int (0 : Int32)), (0, .ref v0), (1, .int v1), (2, .int v2), (3, .int v3), (4, .int v4), (5, .int v5), (6, .int v6)] dX12_countWays_120 (by decide) rfl ?_
      obtain ⟨n56, h⟩ := h
      refine j_sub [1, 2, 3, 4, 5, 6, 7, 0] rfl ?_
      exact m_X12_countWays_L122 E EU K90 hK90 K108 hK108 n56 v0 v1 v2 v3 v4 v5 v6 (0 : Int32) Z I L hZ hx hc hb kv0 h
set_option maxRecDepth 100000 in
def f_X12_countWays_L90 (B : Nat × Nat)  (Q : Int32 → jZ → jI → jL → Prop) : Nat → Nat → Int32 → Int32 → Int32 → Int32 → jZ → jI → jL → Prop
  | 0 => fun _ _ _ _ _ _ _ _ => False
  | n + 1 => fun v0 v1 v2 v3 v4 Z I L => (((I v0 0) ≤ v4 → (∃ m338 : Nat, f_X12_countWays_L338 B  Q m338 v0 v1 v2 v3 (0 : Int32) (0 : Int32) Z I L)) ∧ (¬ ((I v0 0) ≤ v4) → (∀ x59 : Int32, x59 = (v4 + (1 : Int32)) → (∃ m108 : Nat, f_X12_countWays_L108 B (f_X12_countWays_L90 B Q n) Q m108 v0 v1 v2 v3 v4 x59 (0 : Int32) Z I L))))
set_option maxHeartbeats 4000000 in
set_option maxRecDepth 100000 in
theorem m_X12_countWays_L90 {G : jG} {Z0 : jZ} {B : Nat × Nat} {Q : Int32 → jZ → jI → jL → Prop} (E : jE G cX12_countWays RX12 w_X12_countWays 11 (some .int) (jrm B 106 2564 Z0) jRF) (EU : jEU G B Z0 (urtI B Z0 Q))  : ∀ (n : Nat) (v0 : Nat) (v1 : Int32) (v2 : Int32) (v3 : Int32) (v4 : Int32) (Z : jZ) (I : jI) (L : jL), SH Z → jext Z0 Z → jle Z0 Z → jin B Z → jk Z v0 12 → f_X12_countWays_L90 B  Q n v0 v1 v2 v3 v4 Z I L → jJ G 11 90 [(0, .ref v0), (1, .int v1), (2, .int v2), (3, .int v3), (4, .int v4)] [] Z I L (jcz Z - jcz Z0) (jsz Z - jsz Z0) := by
  intro n
  induction n with
  | zero => intro v0 v1 v2 v3 v4 Z I L _ _ _ _ _ h; exact h.elim
  | succ n ih =>
    intro v0 v1 v2 v3 v4 Z I L hZ hx hc hb kv0 h
    have h : (((I v0 0) ≤ v4 → (∃ m338 : Nat, f_X12_countWays_L338 B  Q m338 v0 v1 v2 v3 (0 : Int32) (0 : Int32) Z I L)) ∧ (¬ ((I v0 0) ≤ v4) → (∀ x59 : Int32, x59 = (v4 + (1 : Int32)) → (∃ m108 : Nat, f_X12_countWays_L108 B (f_X12_countWays_L90 B Q n) Q m108 v0 v1 v2 v3 v4 x59 (0 : Int32) Z I L)))) := h
    obtain ⟨K90, eK90⟩ : ∃ K : Nat → Int32 → Int32 → Int32 → Int32 → jZ → jI → jL → Prop, K = f_X12_countWays_L90 B  Q n := ⟨_, rfl⟩
    have hK90 := ih
    clear eK90 K90
    generalize f_X12_countWays_L90 B  Q n = K90 at hK90 h
    refine j_iload E dX12_countWays_90 4 rfl ?_
    refine j_aload_n E dX12_countWays_92 0 rfl ?_
    refine j_geti E 12 0 rfl rfl (by decide) (by decide) (iw iT_12) rfl rfl (tw W_693) kv0 dX12_countWays_93 ?_
    refine j_icmp_ge E 332 dX12_countWays_96 (by decide) (fun c57 => ?_) (fun c57 => ?_)
    · have h := h.1 c57
      refine j_iconst E (v := 0) dX12_countWays_332 (by decide) ?_
      refine j_istore E 4 [(4, .int (0 : Int32)), (0, .ref v0), (1, .int v1), (2, .int v2), (3, .int v3)] dX12_countWays_333 (by decide) rfl ?_
      refine j_iconst E (v := 0) dX12_countWays_335 (by decide) ?_
      refine j_istore E 5 [(5, .int (0 : Int32)), (4, .int (0 : Int32)), (0, .ref v0), (1, .int v1), (2, .int v2), (3, .int v3)] dX12_countWays_336 (by decide) rfl ?_
      obtain ⟨n58, h⟩ := h
      refine j_sub [2, 3, 4, 5, 1, 0] rfl ?_
      exact m_X12_countWays_L338 E EU  n58 v0 v1 v2 v3 (0 : Int32) (0 : Int32) Z I L hZ hx hc hb kv0 h
    · have h := h.2 c57
      refine j_iload E dX12_countWays_99 4 rfl ?_
      refine j_iconst E (v := 1) dX12_countWays_101 (by decide) ?_
      refine j_iadd E dX12_countWays_102 ?_
      refine j_topi (fun x59 ex59 => ?_)
      have h := h x59 ex59
      refine j_istore E 5 [(5, .int x59), (0, .ref v0), (1, .int v1), (2, .int v2), (3, .int v3), (4, .int v4)] dX12_countWays_103 (by decide) rfl ?_
      refine j_iconst E (v := 0) dX12_countWays_105 (by decide) ?_
      refine j_istore E 6 [(6, .int (0 : Int32)), (5, .int x59), (0, .ref v0), (1, .int v1), (2, .int v2), (3, .int v3), (4, .int v4)] dX12_countWays_106 (by decide) rfl ?_
      obtain ⟨n60, h⟩ := h
      refine j_sub [2, 3, 4, 5, 6, 1, 0] rfl ?_
      exact m_X12_countWays_L108 E EU K90 hK90 n60 v0 v1 v2 v3 v4 x59 (0 : Int32) Z I L hZ hx hc hb kv0 h
set_option maxRecDepth 100000 in
def f_X12_countWays_L47 (B : Nat × Nat) (K33 : Nat → Int32 → Int32 → Int32 → Int32 → jZ → jI → jL → Prop) (Q : Int32 → jZ → jI → jL → Prop) : Nat → Nat → Int32 → Int32 → Int32 → Int32 → Int32 → jZ → jI → jL → Prop
  | 0 => fun _ _ _ _ _ _ _ _ _ => False
  | n + 1 => fun v0 v1 v2 v3 v4 v5 Z I L => ((v2 < v5 → (∀ x62 : Int32, x62 = v4 + 1 → K33 v0 v1 v2 v3 x62 Z I L)) ∧ (¬ (v2 < v5) → (∀ b63 : Nat, jr Z v0 45 = some b63 → (vp_in ((v4 * (1000 : Int32)) + v5) 484000 ∧ (∀ I65 : jI, I65 = jpI I b63 ((v4 * (1000 : Int32)) + v5).toNatClampNeg (0 : Int32) → (∀ x66 : Int32, x66 = v5 + 1 → (f_X12_countWays_L47 B K33 Q n) v0 v1 v2 v3 v4 x66 Z I65 L))))))
set_option maxHeartbeats 4000000 in
set_option maxRecDepth 100000 in
theorem m_X12_countWays_L47 {G : jG} {Z0 : jZ} {B : Nat × Nat} {Q : Int32 → jZ → jI → jL → Prop} (E : jE G cX12_countWays RX12 w_X12_countWays 11 (some .int) (jrm B 106 2564 Z0) jRF) (EU : jEU G B Z0 (urtI B Z0 Q)) (K33 : Nat → Int32 → Int32 → Int32 → Int32 → jZ → jI → jL → Prop) (hK33 : ∀ (v0 : Nat) (v1 : Int32) (v2 : Int32) (v3 : Int32) (v4 : Int32) (Z : jZ) (I : jI) (L : jL), SH Z → jext Z0 Z → jle Z0 Z → jin B Z → jk Z v0 12 → K33 v0 v1 v2 v3 v4 Z I L → jJ G 11 33 [(0, .ref v0), (1, .int v1), (2, .int v2), (3, .int v3), (4, .int v4)] [] Z I L (jcz Z - jcz Z0) (jsz Z - jsz Z0)) : ∀ (n : Nat) (v0 : Nat) (v1 : Int32) (v2 : Int32) (v3 : Int32) (v4 : Int32) (v5 : Int32) (Z : jZ) (I : jI) (L : jL), SH Z → jext Z0 Z → jle Z0 Z → jin B Z → jk Z v0 12 → f_X12_countWays_L47 B K33 Q n v0 v1 v2 v3 v4 v5 Z I L → jJ G 11 47 [(0, .ref v0), (1, .int v1), (2, .int v2), (3, .int v3), (4, .int v4), (5, .int v5)] [] Z I L (jcz Z - jcz Z0) (jsz Z - jsz Z0) := by
  intro n
  induction n with
  | zero => intro v0 v1 v2 v3 v4 v5 Z I L _ _ _ _ _ h; exact h.elim
  | succ n ih =>
    intro v0 v1 v2 v3 v4 v5 Z I L hZ hx hc hb kv0 h
    have h : ((v2 < v5 → (∀ x62 : Int32, x62 = v4 + 1 → K33 v0 v1 v2 v3 x62 Z I L)) ∧ (¬ (v2 < v5) → (∀ b63 : Nat, jr Z v0 45 = some b63 → (vp_in ((v4 * (1000 : Int32)) + v5) 484000 ∧ (∀ I65 : jI, I65 = jpI I b63 ((v4 * (1000 : Int32)) + v5).toNatClampNeg (0 : Int32) → (∀ x66 : Int32, x66 = v5 + 1 → (f_X12_countWays_L47 B K33 Q n) v0 v1 v2 v3 v4 x66 Z I65 L)))))) := h
    obtain ⟨K47, eK47⟩ : ∃ K : Nat → Int32 → Int32 → Int32 → Int32 → Int32 → jZ → jI → jL → Prop, K = f_X12_countWays_L47 B K33 Q n := ⟨_, rfl⟩
    have hK47 := ih
    clear eK47 K47
    generalize f_X12_countWays_L47 B K33 Q n = K47 at hK47 h
    refine j_iload E dX12_countWays_47 5 rfl ?_
    refine j_iload_n E dX12_countWays_49 2 rfl ?_
    refine j_icmp_gt E 74 dX12_countWays_50 (by decide) (fun c61 => ?_) (fun c61 => ?_)
    · have h := h.1 c61
      obtain ⟨x62, ex62⟩ : ∃ y : Int32, y = v4 + 1 := ⟨_, rfl⟩
      have h := h x62 ex62
      refine j_iinc E x62 [(4, .int x62), (0, .ref v0), (1, .int v1), (2, .int v2), (3, .int v3), (5, .int v5)] dX12_countWays_74 4 rfl (by rw [ex62]; rfl) (by decide) rfl ?_
      refine j_goto E 33 dX12_countWays_77 (by decide) ?_
      refine j_sub [1, 2, 3, 4, 0] rfl ?_
      exact hK33 v0 v1 v2 v3 x62 Z I L hZ hx hc hb kv0 h
    · have h := h.2 c61
      refine j_aload_n E dX12_countWays_53 0 rfl ?_
      obtain ⟨b63, eb63, kb63, lb63⟩ := sh_f hZ kv0 (j := 45) (k := 14) (m := 484000) rfl
      have h := h b63 eb63
      refine j_getr E 12 45 rfl rfl (by decide) (by decide) (iw iT_12) rfl rfl (tw W_867) kv0 eb63 dX12_countWays_54 ?_
      refine j_iload E dX12_countWays_57 4 rfl ?_
      refine j_sipush E (v := 1000) dX12_countWays_59 (by decide) ?_
      refine j_imul E dX12_countWays_62 ?_
      refine j_iload E dX12_countWays_63 5 rfl ?_
      refine j_iadd E dX12_countWays_65 ?_
      refine j_iconst E (v := 0) dX12_countWays_66 (by decide) ?_
      obtain ⟨o64, h⟩ := h
      refine j_iast E kb63 (by rw [lb63]; exact o64) dX12_countWays_67 ?_
      refine j_nmI (fun I65 eI65 => ?_)
      have h := h I65 eI65
      obtain ⟨x66, ex66⟩ : ∃ y : Int32, y = v5 + 1 := ⟨_, rfl⟩
      have h := h x66 ex66
      refine j_iinc E x66 [(5, .int x66), (0, .ref v0), (1, .int v1), (2, .int v2), (3, .int v3), (4, .int v4)] dX12_countWays_68 5 rfl (by rw [ex66]; rfl) (by decide) rfl ?_
      refine j_goto E 47 dX12_countWays_71 (by decide) ?_
      refine j_sub [1, 2, 3, 4, 5, 0] rfl ?_
      exact hK47 v0 v1 v2 v3 v4 x66 Z I65 L hZ hx hc hb kv0 h
set_option maxRecDepth 100000 in
def f_X12_countWays_L33 (B : Nat × Nat)  (Q : Int32 → jZ → jI → jL → Prop) : Nat → Nat → Int32 → Int32 → Int32 → Int32 → jZ → jI → jL → Prop
  | 0 => fun _ _ _ _ _ _ _ _ => False
  | n + 1 => fun v0 v1 v2 v3 v4 Z I L => (∀ b67 : Nat, jr Z v0 9 = some b67 → (vp_in v1 6 ∧ (((I b67 v1.toNatClampNeg) < v4 → (∀ b70 : Nat, jr Z v0 45 = some b70 → (∀ I71 : jI, I71 = jpI I b70 (0 : Int32).toNatClampNeg (1 : Int32) → (∃ m90 : Nat, f_X12_countWays_L90 B  Q m90 v0 v1 v2 v3 (0 : Int32) Z I71 L)))) ∧ (¬ ((I b67 v1.toNatClampNeg) < v4) → (∃ m47 : Nat, f_X12_countWays_L47 B (f_X12_countWays_L33 B Q n) Q m47 v0 v1 v2 v3 v4 (0 : Int32) Z I L)))))
set_option maxHeartbeats 4000000 in
set_option maxRecDepth 100000 in
theorem m_X12_countWays_L33 {G : jG} {Z0 : jZ} {B : Nat × Nat} {Q : Int32 → jZ → jI → jL → Prop} (E : jE G cX12_countWays RX12 w_X12_countWays 11 (some .int) (jrm B 106 2564 Z0) jRF) (EU : jEU G B Z0 (urtI B Z0 Q))  : ∀ (n : Nat) (v0 : Nat) (v1 : Int32) (v2 : Int32) (v3 : Int32) (v4 : Int32) (Z : jZ) (I : jI) (L : jL), SH Z → jext Z0 Z → jle Z0 Z → jin B Z → jk Z v0 12 → f_X12_countWays_L33 B  Q n v0 v1 v2 v3 v4 Z I L → jJ G 11 33 [(0, .ref v0), (1, .int v1), (2, .int v2), (3, .int v3), (4, .int v4)] [] Z I L (jcz Z - jcz Z0) (jsz Z - jsz Z0) := by
  intro n
  induction n with
  | zero => intro v0 v1 v2 v3 v4 Z I L _ _ _ _ _ h; exact h.elim
  | succ n ih =>
    intro v0 v1 v2 v3 v4 Z I L hZ hx hc hb kv0 h
    have h : (∀ b67 : Nat, jr Z v0 9 = some b67 → (vp_in v1 6 ∧ (((I b67 v1.toNatClampNeg) < v4 → (∀ b70 : Nat, jr Z v0 45 = some b70 → (∀ I71 : jI, I71 = jpI I b70 (0 : Int32).toNatClampNeg (1 : Int32) → (∃ m90 : Nat, f_X12_countWays_L90 B  Q m90 v0 v1 v2 v3 (0 : Int32) Z I71 L)))) ∧ (¬ ((I b67 v1.toNatClampNeg) < v4) → (∃ m47 : Nat, f_X12_countWays_L47 B (f_X12_countWays_L33 B Q n) Q m47 v0 v1 v2 v3 v4 (0 : Int32) Z I L))))) := h
    obtain ⟨K33, eK33⟩ : ∃ K : Nat → Int32 → Int32 → Int32 → Int32 → jZ → jI → jL → Prop, K = f_X12_countWays_L33 B  Q n := ⟨_, rfl⟩
    have hK33 := ih
    clear eK33 K33
    generalize f_X12_countWays_L33 B  Q n = K33 at hK33 h
    refine j_iload E dX12_countWays_33 4 rfl ?_
    refine j_aload_n E dX12_countWays_35 0 rfl ?_
    obtain ⟨b67, eb67, kb67, lb67⟩ := sh_f hZ kv0 (j := 9) (k := 14) (m := 6) rfl
    have h := h b67 eb67
    refine j_getr E 12 9 rfl rfl (by decide) (by decide) (iw iT_12) rfl rfl (tw W_734) kv0 eb67 dX12_countWays_36 ?_
    refine j_iload_n E dX12_countWays_39 1 rfl ?_
    obtain ⟨o68, h⟩ := h
    refine j_iald E kb67 (by rw [lb67]; exact o68) dX12_countWays_40 ?_
    refine j_icmp_gt E 80 dX12_countWays_41 (by decide) (fun c69 => ?_) (fun c69 => ?_)
    · have h := h.1 c69
      refine j_aload_n E dX12_countWays_80 0 rfl ?_
      obtain ⟨b70, eb70, kb70, lb70⟩ := sh_f hZ kv0 (j := 45) (k := 14) (m := 484000) rfl
      have h := h b70 eb70
      refine j_getr E 12 45 rfl rfl (by decide) (by decide) (iw iT_12) rfl rfl (tw W_867) kv0 eb70 dX12_countWays_81 ?_
      refine j_iconst E (v := 0) dX12_countWays_84 (by decide) ?_
      refine j_iconst E (v := 1) dX12_countWays_85 (by decide) ?_
      refine j_iast E kb70 (by rw [lb70]; exact vp_in_lit (by decide)) dX12_countWays_86 ?_
      refine j_nmI (fun I71 eI71 => ?_)
      have h := h I71 eI71
      refine j_iconst E (v := 0) dX12_countWays_87 (by decide) ?_
      refine j_istore E 4 [(4, .int (0 : Int32)), (0, .ref v0), (1, .int v1), (2, .int v2), (3, .int v3)] dX12_countWays_88 (by decide) rfl ?_
      obtain ⟨n72, h⟩ := h
      refine j_sub [1, 2, 3, 4, 0] rfl ?_
      exact m_X12_countWays_L90 E EU  n72 v0 v1 v2 v3 (0 : Int32) Z I71 L hZ hx hc hb kv0 h
    · have h := h.2 c69
      refine j_iconst E (v := 0) dX12_countWays_44 (by decide) ?_
      refine j_istore E 5 [(5, .int (0 : Int32)), (0, .ref v0), (1, .int v1), (2, .int v2), (3, .int v3), (4, .int v4)] dX12_countWays_45 (by decide) rfl ?_
      obtain ⟨n73, h⟩ := h
      refine j_sub [1, 2, 3, 4, 5, 0] rfl ?_
      exact m_X12_countWays_L47 E EU K33 hK33 n73 v0 v1 v2 v3 v4 (0 : Int32) Z I L hZ hx hc hb kv0 h
set_option maxRecDepth 100000 in
def f_X12_countWays (B : Nat × Nat) (v0 : Nat) (v1 : Int32) (v2 : Int32) (Z : jZ) (I : jI) (L : jL) (Q : Int32 → jZ → jI → jL → Prop) : Prop := (∀ I74 : jI, I74 = jpI I v0 46 (-1 : Int32) → (∀ I75 : jI, I75 = jpI I74 v0 47 (0 : Int32) → (∀ b76 : Nat, jr Z v0 10 = some b76 → (vp_in v1 6 ∧ ((v2 ≤ (I75 b76 v1.toNatClampNeg) → (f_X12_layMoves B v0 v1 Z I75 L (fun Z80 I81 L82 => (∃ m33 : Nat, f_X12_countWays_L33 B  Q m33 v0 v1 v2 (121 : Int32) (0 : Int32) Z80 I81 L82)))) ∧ (¬ (v2 ≤ (I75 b76 v1.toNatClampNeg)) → Q (0 : Int32) Z I75 L))))))
set_option maxHeartbeats 4000000 in
set_option maxRecDepth 100000 in
theorem c_X12_countWays (l : Launch) (D : va_G) (cy : jC) (B : Nat × Nat) (v0 : Nat) (v1 : Int32) (v2 : Int32) (Z : jZ) (I : jI) (L : jL) (Q : Int32 → jZ → jI → jL → Prop) (hZ : SH Z) (hb : jin B Z) (kv0 : jk Z v0 12) (h : f_X12_countWays B v0 v1 v2 Z I L Q) : jCtU l yX12_countWays w_X12_countWays B 106 2564 D cy [.ref v0, .int v1, .int v2] Z I L (urtI B Z Q) := by
  refine jCtU_of (cc := cX12_countWays) (maxL := 11) (ret := (some .int)) (by decide +kernel) rfl (Nat.le_of_ble_eq_true rfl) ?_
  intro G eD eY eL E EU
  subst eD; subst eY; subst eL
  have E : jE G cX12_countWays RX12 w_X12_countWays 11 (some .int) (jrm B 106 2564 Z) jRF := E
  have hx : jext Z Z := jext_rfl
  have hc : jle Z Z := jle_rfl
  show jJ G 11 0 [(0, .ref v0), (1, .int v1), (2, .int v2)] [] Z I L (jcz Z - jcz Z) (jsz Z - jsz Z)
  refine j_aload_n E dX12_countWays_0 0 rfl ?_
  refine j_iconst E (v := -1) dX12_countWays_1 (by decide) ?_
  refine j_puti E 12 46 rfl rfl (by decide) (by decide) (iw iT_12) tyX12_ok nmX12 rfl rfl (tw W_868) rfl rfl rfl kv0 dX12_countWays_2 ?_
  refine j_nmI (fun I74 eI74 => ?_)
  have h := h I74 eI74
  refine j_aload_n E dX12_countWays_5 0 rfl ?_
  refine j_iconst E (v := 0) dX12_countWays_6 (by decide) ?_
  refine j_puti E 12 47 rfl rfl (by decide) (by decide) (iw iT_12) tyX12_ok nmX12 rfl rfl (tw W_869) rfl rfl rfl kv0 dX12_countWays_7 ?_
  refine j_nmI (fun I75 eI75 => ?_)
  have h := h I75 eI75
  refine j_iload_n E dX12_countWays_10 2 rfl ?_
  refine j_aload_n E dX12_countWays_11 0 rfl ?_
  obtain ⟨b76, eb76, kb76, lb76⟩ := sh_f hZ kv0 (j := 10) (k := 14) (m := 6) rfl
  have h := h b76 eb76
  refine j_getr E 12 10 rfl rfl (by decide) (by decide) (iw iT_12) rfl rfl (tw W_736) kv0 eb76 dX12_countWays_12 ?_
  refine j_iload_n E dX12_countWays_15 1 rfl ?_
  obtain ⟨o77, h⟩ := h
  refine j_iald E kb76 (by rw [lb76]; exact o77) dX12_countWays_16 ?_
  refine j_icmp_le E 22 dX12_countWays_17 (by decide) (fun c78 => ?_) (fun c78 => ?_)
  · have h := h.1 c78
    refine j_aload_n E dX12_countWays_22 0 rfl ?_
    refine j_iload_n E dX12_countWays_23 1 rfl ?_
    refine ju_callV E [.int v1] [] (c_X12_layMoves (gL G) (gD G) (gY G) B v0 v1 Z I75 L _ hZ hb kv0 h) (gwV W_856 W_857 W_858 W_695 W_855) rfl ⟨rfl, fy_X12_layMoves⟩ ⟨Nat.le_of_ble_eq_true rfl, Nat.le_of_ble_eq_true rfl⟩ (c := 12) rfl (by decide) kv0 rfl rfl (Nat.le_of_ble_eq_true rfl) (ju_f hc hb) dX12_countWays_24 (fun v79 Z80 I81 L82 q83 j84 => ?_)
    refine ju_next hc j84 ?_
    have hc := jle_trans hc j84
    obtain ⟨yZ80, hZ80, hbZ80, rfl, h⟩ := q83
    have hZ := hZ80
    have hx : jext Z Z80 := jext_trans hx yZ80
    have hb := hbZ80
    have k85 := (yZ80 _ _ kv0).1
    show jJ G 11 27 [(0, .ref v0), (1, .int v1), (2, .int v2)] [] Z80 I81 L82 (jcz Z80 - jcz Z) (jsz Z80 - jsz Z)
    refine j_bipush E (v := 121) dX12_countWays_27 (by decide) ?_
    refine j_istore_n E 3 [(3, .int (121 : Int32)), (0, .ref v0), (1, .int v1), (2, .int v2)] dX12_countWays_29 rfl (by decide) rfl ?_
    refine j_iconst E (v := 0) dX12_countWays_30 (by decide) ?_
    refine j_istore E 4 [(4, .int (0 : Int32)), (3, .int (121 : Int32)), (0, .ref v0), (1, .int v1), (2, .int v2)] dX12_countWays_31 (by decide) rfl ?_
    obtain ⟨n86, h⟩ := h
    refine j_sub [2, 3, 4, 1, 0] rfl ?_
    exact m_X12_countWays_L33 E EU  n86 v0 v1 v2 (121 : Int32) (0 : Int32) Z80 I81 L82 hZ hx hc hb k85 h
  · have h := h.2 c78
    refine j_iconst E (v := 0) dX12_countWays_20 (by decide) ?_
    exact ju_ireturn E EU hc hb ⟨hx, hZ, hb, _, rfl, h⟩ dX12_countWays_21
set_option maxRecDepth 100000 in
def f_X12_isCost (v0 : Int32) (Z : jZ) (I : jI) (L : jL) (Q : Int32 → jI → jL → Prop) : Prop := (f_X12_in v0 (0 : Int32) (999 : Int32) Z I L (fun r7 I3 L4 => Q r7 I3 L4))
set_option maxHeartbeats 4000000 in
set_option maxRecDepth 100000 in
theorem c_X12_isCost (l : Launch) (D : va_G) (cy : jC) (v0 : Int32) (Z : jZ) (I : jI) (L : jL) (Q : Int32 → jI → jL → Prop) (hZ : SH Z)  (h : f_X12_isCost v0 Z I L Q) : jCt l yX12_isCost w_X12_isCost { frames := 1, cells := 0, slots := 0, locals := 22 } D cy [.int v0] Z I L (rtZ Z Q) := by
  refine jCt_of (cc := cX12_isCost) (maxL := 1) (ret := (some .boolean)) (by decide +kernel) rfl (Nat.le_of_ble_eq_true rfl) ?_
  intro G eD eY eL E
  subst eD; subst eY; subst eL
  have E : jE G cX12_isCost RX12 w_X12_isCost 1 (some .boolean) { frames := 1, cells := 0, slots := 0, locals := 22 } (rtZ Z Q) := E
  show jJ G 1 0 [(0, .int v0)] [] Z I L 0 0
  refine j_iload_n E dX12_isCost_0 0 rfl ?_
  refine j_iconst E (v := 0) dX12_isCost_1 (by decide) ?_
  refine j_sipush E (v := 999) dX12_isCost_2 (by decide) ?_
  refine j_callS E [.int v0, .int (0 : Int32), .int (999 : Int32)] [] (c_X12_in (gL G) (gD G) (gY G) v0 (0 : Int32) (999 : Int32) Z I L _ hZ  h) (gwS W_696 W_697 W_695 W_694) rfl fy_X12_in ⟨by decide, by decide⟩ rfl rfl (Nat.le_of_ble_eq_true rfl) ⟨Nat.zero_le _, Nat.zero_le _⟩ dX12_isCost_5 (fun v1 Z2 I3 L4 q5 => ?_)
  obtain ⟨rfl, r7, rfl, zr7, h⟩ := q5
  show jJ G 1 8 [(0, .int v0)] [.int r7] Z I3 L4 0 0
  exact j_zreturn E zr7 ⟨rfl, _, rfl, zr7, h⟩ (Nat.zero_le _) (Nat.zero_le _) dX12_isCost_8
set_option maxRecDepth 100000 in
def f_X12_ways_b27 (B : Nat × Nat)  (Q : Int64 → jZ → jI → jL → Prop)  (Z : jZ) (I : jI) (L : jL) : Prop := Q (-1 : Int64) Z I L
set_option maxHeartbeats 4000000 in
set_option maxRecDepth 100000 in
theorem m_X12_ways_b27 {G : jG} {B : Nat × Nat} {Z0 : jZ} {Q : Int64 → jZ → jI → jL → Prop} (E : jE G cX12_ways RX12 w_X12_ways 4 (some .long) (jrm B 107 2594 Z0) jRF) (EU : jEU G B Z0 (urtL B Z0 Q))   (Z : jZ) (I : jI) (L : jL) (hZ : SH Z) (hx : jext Z0 Z) (hc : jle Z0 Z) (hb : jin B Z)  (h : f_X12_ways_b27 B  Q  Z I L) : jJ G 4 27 [] [] Z I L (jcz Z - jcz Z0) (jsz Z - jsz Z0) := by
  refine j_ldc2 E (tw W_829) dX12_ways_27 ?_
  exact ju_lreturn E EU hc hb ⟨hx, hZ, hb, _, rfl, h⟩ dX12_ways_30
set_option maxRecDepth 100000 in
def f_X12_ways (B : Nat × Nat) (v0 : Nat) (v1 : Int32) (v2 : Int32) (Z : jZ) (I : jI) (L : jL) (Q : Int64 → jZ → jI → jL → Prop) : Prop := (∀ I1 : jI, I1 = jpI I v0 22 (0 : Int32) → (f_X12_isOne v0 v1 Z I1 L (fun r8 I4 L5 => ((r8 = 0 → f_X12_ways_b27 B  Q  Z I4 L5) ∧ (¬ (r8 = 0) → (((I4 v0 0) = 0 → f_X12_ways_b27 B  Q  Z I4 L5) ∧ (¬ ((I4 v0 0) = 0) → (f_X12_isCost v2 Z I4 L5 (fun r17 I13 L14 => ((¬ r17 = 0 → (f_X12_countWays B v0 v1 v2 Z I13 L14 (fun r25 Z20 I21 L22 => (∀ I27 : jI, I27 = jpI I21 v0 21 (0 : Int32) → (f_X12_tell v0 ((I27 v0 47).toInt64) Z20 I27 L22 (fun I30 L31 => Q (r25.toInt64) Z20 I30 L31)))))) ∧ (r17 = 0 → f_X12_ways_b27 B  Q  Z I13 L14)))))))))))
set_option maxHeartbeats 4000000 in
set_option maxRecDepth 100000 in
theorem c_X12_ways (l : Launch) (D : va_G) (cy : jC) (B : Nat × Nat) (v0 : Nat) (v1 : Int32) (v2 : Int32) (Z : jZ) (I : jI) (L : jL) (Q : Int64 → jZ → jI → jL → Prop) (hZ : SH Z) (hb : jin B Z) (kv0 : jk Z v0 12) (h : f_X12_ways B v0 v1 v2 Z I L Q) : jCtU l yX12_ways w_X12_ways B 107 2594 D cy [.ref v0, .int v1, .int v2] Z I L (urtL B Z Q) := by
  refine jCtU_of (cc := cX12_ways) (maxL := 4) (ret := (some .long)) (by decide +kernel) rfl (Nat.le_of_ble_eq_true rfl) ?_
  intro G eD eY eL E EU
  subst eD; subst eY; subst eL
  have E : jE G cX12_ways RX12 w_X12_ways 4 (some .long) (jrm B 107 2594 Z) jRF := E
  have hx : jext Z Z := jext_rfl
  have hc : jle Z Z := jle_rfl
  show jJ G 4 0 [(0, .ref v0), (1, .int v1), (2, .int v2)] [] Z I L (jcz Z - jcz Z) (jsz Z - jsz Z)
  refine j_aload_n E dX12_ways_0 0 rfl ?_
  refine j_iconst E (v := 0) dX12_ways_1 (by decide) ?_
  refine j_puti E 12 22 rfl rfl (by decide) (by decide) (iw iT_12) tyX12_ok nmX12 rfl rfl (tw W_690) rfl rfl rfl kv0 dX12_ways_2 ?_
  refine j_nmI (fun I1 eI1 => ?_)
  have h := h I1 eI1
  refine j_aload_n E dX12_ways_5 0 rfl ?_
  refine j_iload_n E dX12_ways_6 1 rfl ?_
  refine j_callV E [.int v1] [] (c_X12_isOne (gL G) (gD G) (gY G) v0 v1 Z I1 L _ hZ kv0 h) (gwV W_804 W_805 W_806 W_695 W_803) rfl ⟨rfl, fy_X12_isOne⟩ ⟨Nat.le_of_ble_eq_true rfl, Nat.le_of_ble_eq_true rfl⟩ (c := 12) rfl (by decide) kv0 rfl rfl (Nat.le_of_ble_eq_true rfl) (ju_kn hb) dX12_ways_7 (fun v2 Z3 I4 L5 q6 => ?_)
  obtain ⟨rfl, r8, rfl, zr8, h⟩ := q6
  show jJ G 4 10 [(0, .ref v0), (1, .int v1), (2, .int v2)] [.int r8] Z I4 L5 (jcz Z - jcz Z) (jsz Z - jsz Z)
  refine j_if_eq E 27 dX12_ways_10 (by decide) (fun c9 => ?_) (fun c9 => ?_)
  · have h := h.1 c9
    refine j_sub [] rfl ?_
    exact m_X12_ways_b27 E EU   Z I4 L5 hZ hx hc hb  h
  · have h := h.2 c9
    refine j_aload_n E dX12_ways_13 0 rfl ?_
    refine j_geti E 12 0 rfl rfl (by decide) (by decide) (iw iT_12) rfl rfl (tw W_693) kv0 dX12_ways_14 ?_
    refine j_if_eq E 27 dX12_ways_17 (by decide) (fun c10 => ?_) (fun c10 => ?_)
    · have h := h.1 c10
      refine j_sub [] rfl ?_
      exact m_X12_ways_b27 E EU   Z I4 L5 hZ hx hc hb  h
    · have h := h.2 c10
      refine j_iload_n E dX12_ways_20 2 rfl ?_
      refine j_callS E [.int v2] [] (c_X12_isCost (gL G) (gD G) (gY G) v2 Z I4 L5 _ hZ  h) (gwS W_871 W_872 W_695 W_870) rfl fy_X12_isCost ⟨Nat.le_of_ble_eq_true rfl, Nat.le_of_ble_eq_true rfl⟩ rfl rfl (Nat.le_of_ble_eq_true rfl) (ju_kn hb) dX12_ways_21 (fun v11 Z12 I13 L14 q15 => ?_)
      obtain ⟨rfl, r17, rfl, zr17, h⟩ := q15
      show jJ G 4 24 [(0, .ref v0), (1, .int v1), (2, .int v2)] [.int r17] Z I13 L14 (jcz Z - jcz Z) (jsz Z - jsz Z)
      refine j_if_ne E 31 dX12_ways_24 (by decide) (fun c18 => ?_) (fun c18 => ?_)
      · have h := h.1 c18
        refine j_aload_n E dX12_ways_31 0 rfl ?_
        refine j_iload_n E dX12_ways_32 1 rfl ?_
        refine j_iload_n E dX12_ways_33 2 rfl ?_
        refine ju_callV E [.int v1, .int v2] [] (c_X12_countWays (gL G) (gD G) (gY G) B v0 v1 v2 Z I13 L14 _ hZ hb kv0 h) (gwV W_874 W_875 W_876 W_695 W_873) rfl ⟨rfl, fy_X12_countWays⟩ ⟨Nat.le_of_ble_eq_true rfl, Nat.le_of_ble_eq_true rfl⟩ (c := 12) rfl (by decide) kv0 rfl rfl (Nat.le_of_ble_eq_true rfl) (ju_f hc hb) dX12_ways_34 (fun v19 Z20 I21 L22 q23 j24 => ?_)
        refine ju_next hc j24 ?_
        have hc := jle_trans hc j24
        obtain ⟨yZ20, hZ20, hbZ20, r25, rfl, h⟩ := q23
        have hZ := hZ20
        have hx : jext Z Z20 := jext_trans hx yZ20
        have hb := hbZ20
        have k26 := (yZ20 _ _ kv0).1
        show jJ G 4 37 [(0, .ref v0), (1, .int v1), (2, .int v2)] [.int r25] Z20 I21 L22 (jcz Z20 - jcz Z) (jsz Z20 - jsz Z)
        refine j_istore_n E 3 [(3, .int r25), (0, .ref v0), (1, .int v1), (2, .int v2)] dX12_ways_37 rfl (by decide) rfl ?_
        refine j_aload_n E dX12_ways_38 1 rfl ?_
        refine j_iconst E (v := 0) dX12_ways_39 (by decide) ?_
        refine j_puti E 12 21 rfl rfl (by decide) (by decide) (iw iT_12) tyX12_ok nmX12 rfl rfl (tw W_692) rfl rfl rfl k26 dX12_ways_40 ?_
        refine j_nmI (fun I27 eI27 => ?_)
        have h := h I27 eI27
        refine j_aload_n E dX12_ways_43 1 rfl ?_
        refine j_aload_n E dX12_ways_44 1 rfl ?_
        refine j_geti E 12 47 rfl rfl (by decide) (by decide) (iw iT_12) rfl rfl (tw W_869) k26 dX12_ways_45 ?_
        refine j_i2l E dX12_ways_48 ?_
        refine j_callV E [.long ((I27 v0 47).toInt64)] [] (c_X12_tell (gL G) (gD G) (gY G) v0 ((I27 v0 47).toInt64) Z20 I27 L22 _ hZ k26 h) (gwV W_820 W_821 W_822 W_695 W_819) rfl ⟨rfl, fy_X12_tell⟩ ⟨Nat.le_of_ble_eq_true rfl, Nat.le_of_ble_eq_true rfl⟩ (c := 12) rfl (by decide) k26 rfl rfl (Nat.le_of_ble_eq_true rfl) (ju_kn hb) dX12_ways_49 (fun v28 Z29 I30 L31 q32 => ?_)
        obtain ⟨rfl, rfl, h⟩ := q32
        show jJ G 4 52 [(3, .int r25), (0, .ref v0), (1, .int v1), (2, .int v2)] [] Z20 I30 L31 (jcz Z20 - jcz Z) (jsz Z20 - jsz Z)
        refine j_iload_n E dX12_ways_52 0 rfl ?_
        refine j_i2l E dX12_ways_53 ?_
        exact ju_lreturn E EU hc hb ⟨hx, hZ, hb, _, rfl, h⟩ dX12_ways_54
      · have h := h.2 c18
        refine j_sub [] rfl ?_
        exact m_X12_ways_b27 E EU   Z I13 L14 hZ hx hc hb  h
set_option maxRecDepth 100000 in
def f_X12_countTreading (B : Nat × Nat) (v0 : Nat) (v1 : Int32) (v2 : Int32) (v3 : Int32) (Z : jZ) (I : jI) (L : jL) (Q : Int32 → jZ → jI → jL → Prop) : Prop := (f_X12_countWays B v0 v1 v2 Z I L (fun r7 Z2 I3 L4 => (∀ I9 : jI, I9 = jpI I3 v0 39 v3 → (f_X12_countWays B v0 v1 v2 Z2 I9 L4 (fun r16 Z11 I12 L13 => (∀ I18 : jI, I18 = jpI I12 v0 39 (-1 : Int32) → Q (r7 - r16) Z11 I18 L13))))))
set_option maxHeartbeats 4000000 in
set_option maxRecDepth 100000 in
theorem c_X12_countTreading (l : Launch) (D : va_G) (cy : jC) (B : Nat × Nat) (v0 : Nat) (v1 : Int32) (v2 : Int32) (v3 : Int32) (Z : jZ) (I : jI) (L : jL) (Q : Int32 → jZ → jI → jL → Prop) (hZ : SH Z) (hb : jin B Z) (kv0 : jk Z v0 12) (h : f_X12_countTreading B v0 v1 v2 v3 Z I L Q) : jCtU l yX12_countTreading w_X12_countTreading B 107 2594 D cy [.ref v0, .int v1, .int v2, .int v3] Z I L (urtI B Z Q) := by
  refine jCtU_of (cc := cX12_countTreading) (maxL := 6) (ret := (some .int)) (by decide +kernel) rfl (Nat.le_of_ble_eq_true rfl) ?_
  intro G eD eY eL E EU
  subst eD; subst eY; subst eL
  have E : jE G cX12_countTreading RX12 w_X12_countTreading 6 (some .int) (jrm B 107 2594 Z) jRF := E
  have hx : jext Z Z := jext_rfl
  have hc : jle Z Z := jle_rfl
  show jJ G 6 0 [(0, .ref v0), (1, .int v1), (2, .int v2), (3, .int v3)] [] Z I L (jcz Z - jcz Z) (jsz Z - jsz Z)
  refine j_aload_n E dX12_countTreading_0 0 rfl ?_
  refine j_iload_n E dX12_countTreading_1 1 rfl ?_
  refine j_iload_n E dX12_countTreading_2 2 rfl ?_
  refine ju_callV E [.int v1, .int v2] [] (c_X12_countWays (gL G) (gD G) (gY G) B v0 v1 v2 Z I L _ hZ hb kv0 h) (gwV W_874 W_875 W_876 W_695 W_873) rfl ⟨rfl, fy_X12_countWays⟩ ⟨Nat.le_of_ble_eq_true rfl, Nat.le_of_ble_eq_true rfl⟩ (c := 12) rfl (by decide) kv0 rfl rfl (Nat.le_of_ble_eq_true rfl) (ju_f hc hb) dX12_countTreading_3 (fun v1 Z2 I3 L4 q5 j6 => ?_)
  refine ju_next hc j6 ?_
  have hc := jle_trans hc j6
  obtain ⟨yZ2, hZ2, hbZ2, r7, rfl, h⟩ := q5
  have hZ := hZ2
  have hx : jext Z Z2 := jext_trans hx yZ2
  have hb := hbZ2
  have k8 := (yZ2 _ _ kv0).1
  show jJ G 6 6 [(0, .ref v0), (1, .int v1), (2, .int v2), (3, .int v3)] [.int r7] Z2 I3 L4 (jcz Z2 - jcz Z) (jsz Z2 - jsz Z)
  refine j_istore E 4 [(4, .int r7), (0, .ref v0), (1, .int v1), (2, .int v2), (3, .int v3)] dX12_countTreading_6 (by decide) rfl ?_
  refine j_aload_n E dX12_countTreading_8 1 rfl ?_
  refine j_iload_n E dX12_countTreading_9 4 rfl ?_
  refine j_puti E 12 39 rfl rfl (by decide) (by decide) (iw iT_12) tyX12_ok nmX12 rfl rfl (tw W_844) rfl rfl rfl k8 dX12_countTreading_10 ?_
  refine j_nmI (fun I9 eI9 => ?_)
  have h := h I9 eI9
  refine j_aload_n E dX12_countTreading_13 1 rfl ?_
  refine j_iload_n E dX12_countTreading_14 2 rfl ?_
  refine j_iload_n E dX12_countTreading_15 3 rfl ?_
  refine ju_callV E [.int v1, .int v2] [] (c_X12_countWays (gL G) (gD G) (gY G) B v0 v1 v2 Z2 I9 L4 _ hZ hb k8 h) (gwV W_874 W_875 W_876 W_695 W_873) rfl ⟨rfl, fy_X12_countWays⟩ ⟨Nat.le_of_ble_eq_true rfl, Nat.le_of_ble_eq_true rfl⟩ (c := 12) rfl (by decide) k8 rfl rfl (Nat.le_of_ble_eq_true rfl) (ju_f hc hb) dX12_countTreading_16 (fun v10 Z11 I12 L13 q14 j15 => ?_)
  refine ju_next hc j15 ?_
  have hc := jle_trans hc j15
  obtain ⟨yZ11, hZ11, hbZ11, r16, rfl, h⟩ := q14
  have hZ := hZ11
  have hx : jext Z Z11 := jext_trans hx yZ11
  have hb := hbZ11
  have k17 := (yZ11 _ _ k8).1
  show jJ G 6 19 [(4, .int r7), (0, .ref v0), (1, .int v1), (2, .int v2), (3, .int v3)] [.int r16] Z11 I12 L13 (jcz Z11 - jcz Z) (jsz Z11 - jsz Z)
  refine j_istore E 5 [(5, .int r16), (4, .int r7), (0, .ref v0), (1, .int v1), (2, .int v2), (3, .int v3)] dX12_countTreading_19 (by decide) rfl ?_
  refine j_aload_n E dX12_countTreading_21 2 rfl ?_
  refine j_iconst E (v := -1) dX12_countTreading_22 (by decide) ?_
  refine j_puti E 12 39 rfl rfl (by decide) (by decide) (iw iT_12) tyX12_ok nmX12 rfl rfl (tw W_844) rfl rfl rfl k17 dX12_countTreading_23 ?_
  refine j_nmI (fun I18 eI18 => ?_)
  have h := h I18 eI18
  refine j_iload E dX12_countTreading_26 1 rfl ?_
  refine j_iload E dX12_countTreading_28 0 rfl ?_
  refine j_isub E dX12_countTreading_30 ?_
  exact ju_ireturn E EU hc hb ⟨hx, hZ, hb, _, rfl, h⟩ dX12_countTreading_31
set_option maxRecDepth 100000 in
def f_X12_tellPart_L6  (Z : jZ) (Q : jI → jL → Prop) : Nat → Nat → Int64 → Int64 → Int64 → Int64 → jI → jL → Prop
  | 0 => fun _ _ _ _ _ _ _ => False
  | n + 1 => fun v0 v1 v3 v5 v7 I L => (((lg_cmp v7 (0 : Int64)) = 0 → (¬ v5 = 0 ∧ (f_X12_tell v0 (v1 / v5) Z I L (fun I5 L6 => (¬ v5 = 0 ∧ (f_X12_tell v0 (v3 / v5) Z I5 L6 (fun I12 L13 => Q I12 L13))))))) ∧ (¬ ((lg_cmp v7 (0 : Int64)) = 0) → (¬ v7 = 0 ∧ (∀ x17 : Int64, x17 = (v5 - v5 / v7 * v7) → (f_X12_tellPart_L6 Z Q n) v0 v1 v3 v7 x17 I L))))
set_option maxHeartbeats 4000000 in
set_option maxRecDepth 100000 in
theorem m_X12_tellPart_L6 {G : jG} {Z : jZ} {Q : jI → jL → Prop} (E : jE G cX12_tellPart RX12 w_X12_tellPart 11 none { frames := 1, cells := 0, slots := 0, locals := 22 } (rtV Z Q)) (hZ : SH Z)  : ∀ (n : Nat) (v0 : Nat) (v1 : Int64) (v3 : Int64) (v5 : Int64) (v7 : Int64) (I : jI) (L : jL), jk Z v0 12 → f_X12_tellPart_L6  Z Q n v0 v1 v3 v5 v7 I L → jJ G 11 6 [(0, .ref v0), (1, .long v1), (3, .long v3), (5, .long v5), (7, .long v7)] [] Z I L 0 0 := by
  intro n
  induction n with
  | zero => intro v0 v1 v3 v5 v7 I L _ h; exact h.elim
  | succ n ih =>
    intro v0 v1 v3 v5 v7 I L kv0 h
    have h : (((lg_cmp v7 (0 : Int64)) = 0 → (¬ v5 = 0 ∧ (f_X12_tell v0 (v1 / v5) Z I L (fun I5 L6 => (¬ v5 = 0 ∧ (f_X12_tell v0 (v3 / v5) Z I5 L6 (fun I12 L13 => Q I12 L13))))))) ∧ (¬ ((lg_cmp v7 (0 : Int64)) = 0) → (¬ v7 = 0 ∧ (∀ x17 : Int64, x17 = (v5 - v5 / v7 * v7) → (f_X12_tellPart_L6 Z Q n) v0 v1 v3 v7 x17 I L)))) := h
    obtain ⟨K6, eK6⟩ : ∃ K : Nat → Int64 → Int64 → Int64 → Int64 → jI → jL → Prop, K = f_X12_tellPart_L6  Z Q n := ⟨_, rfl⟩
    have hK6 := ih
    clear eK6 K6
    generalize f_X12_tellPart_L6  Z Q n = K6 at hK6 h
    refine j_lload E dX12_tellPart_6 4 rfl ?_
    refine j_lconst E (v := 0) dX12_tellPart_8 (by decide) ?_
    refine j_lcmp E dX12_tellPart_9 ?_
    refine j_if_eq E 31 dX12_tellPart_10 (by decide) (fun c1 => ?_) (fun c1 => ?_)
    · have h := h.1 c1
      refine j_aload_n E dX12_tellPart_31 0 rfl ?_
      refine j_lload_n E dX12_tellPart_32 1 rfl ?_
      refine j_lload E dX12_tellPart_33 3 rfl ?_
      obtain ⟨o2, h⟩ := h
      refine j_ldiv E dX12_tellPart_35 o2 ?_
      refine j_callV E [.long (v1 / v5)] [] (c_X12_tell (gL G) (gD G) (gY G) v0 (v1 / v5) Z I L _ hZ kv0 h) (gwV W_820 W_821 W_822 W_695 W_819) rfl ⟨rfl, fy_X12_tell⟩ ⟨by decide, by decide⟩ (c := 12) rfl (by decide) kv0 rfl rfl (Nat.le_of_ble_eq_true rfl) ⟨Nat.zero_le _, Nat.zero_le _⟩ dX12_tellPart_36 (fun v3 Z4 I5 L6 q7 => ?_)
      obtain ⟨rfl, rfl, h⟩ := q7
      show jJ G 11 39 [(0, .ref v0), (1, .long v1), (3, .long v3), (5, .long v5), (7, .long v7)] [] Z I5 L6 0 0
      refine j_aload_n E dX12_tellPart_39 0 rfl ?_
      refine j_lload_n E dX12_tellPart_40 2 rfl ?_
      refine j_lload E dX12_tellPart_41 3 rfl ?_
      obtain ⟨o9, h⟩ := h
      refine j_ldiv E dX12_tellPart_43 o9 ?_
      refine j_callV E [.long (v3 / v5)] [] (c_X12_tell (gL G) (gD G) (gY G) v0 (v3 / v5) Z I5 L6 _ hZ kv0 h) (gwV W_820 W_821 W_822 W_695 W_819) rfl ⟨rfl, fy_X12_tell⟩ ⟨by decide, by decide⟩ (c := 12) rfl (by decide) kv0 rfl rfl (Nat.le_of_ble_eq_true rfl) ⟨Nat.zero_le _, Nat.zero_le _⟩ dX12_tellPart_44 (fun v10 Z11 I12 L13 q14 => ?_)
      obtain ⟨rfl, rfl, h⟩ := q14
      show jJ G 11 47 [(0, .ref v0), (1, .long v1), (3, .long v3), (5, .long v5), (7, .long v7)] [] Z I12 L13 0 0
      exact j_return E ⟨rfl, rfl, h⟩ (Nat.zero_le _) (Nat.zero_le _) dX12_tellPart_47
    · have h := h.2 c1
      refine j_lload E dX12_tellPart_13 3 rfl ?_
      refine j_lload E dX12_tellPart_15 4 rfl ?_
      obtain ⟨o16, h⟩ := h
      refine j_lrem E dX12_tellPart_17 o16 ?_
      refine j_topl (fun x17 ex17 => ?_)
      have h := h x17 ex17
      refine j_lstore E 9 [(9, .long x17), (0, .ref v0), (1, .long v1), (3, .long v3), (5, .long v5), (7, .long v7)] dX12_tellPart_18 (by decide) rfl ?_
      refine j_lload E dX12_tellPart_20 5 rfl ?_
      refine j_lstore E 5 [(5, .long v7), (9, .long x17), (0, .ref v0), (1, .long v1), (3, .long v3), (7, .long v7)] dX12_tellPart_22 (by decide) rfl ?_
      refine j_lload E dX12_tellPart_24 1 rfl ?_
      refine j_lstore E 7 [(7, .long x17), (5, .long v7), (9, .long x17), (0, .ref v0), (1, .long v1), (3, .long v3)] dX12_tellPart_26 (by decide) rfl ?_
      refine j_goto E 6 dX12_tellPart_28 (by decide) ?_
      refine j_sub [3, 4, 5, 1, 0] rfl ?_
      exact hK6 v0 v1 v3 v7 x17 I L kv0 h
set_option maxRecDepth 100000 in
def f_X12_tellPart (v0 : Nat) (v1 : Int64) (v3 : Int64) (Z : jZ) (I : jI) (L : jL) (Q : jI → jL → Prop) : Prop := (∃ m6 : Nat, f_X12_tellPart_L6  Z Q m6 v0 v1 v3 v1 v3 I L)
set_option maxHeartbeats 4000000 in
set_option maxRecDepth 100000 in
theorem c_X12_tellPart (l : Launch) (D : va_G) (cy : jC) (v0 : Nat) (v1 : Int64) (v3 : Int64) (Z : jZ) (I : jI) (L : jL) (Q : jI → jL → Prop) (hZ : SH Z) (kv0 : jk Z v0 12) (h : f_X12_tellPart v0 v1 v3 Z I L Q) : jCt l yX12_tellPart w_X12_tellPart { frames := 1, cells := 0, slots := 0, locals := 22 } D cy [.ref v0, .long v1, .long v3] Z I L (rtV Z Q) := by
  refine jCt_of (cc := cX12_tellPart) (maxL := 11) (ret := none) (by decide +kernel) rfl (Nat.le_of_ble_eq_true rfl) ?_
  intro G eD eY eL E
  subst eD; subst eY; subst eL
  have E : jE G cX12_tellPart RX12 w_X12_tellPart 11 none { frames := 1, cells := 0, slots := 0, locals := 22 } (rtV Z Q) := E
  show jJ G 11 0 [(0, .ref v0), (1, .long v1), (3, .long v3)] [] Z I L 0 0
  refine j_lload_n E dX12_tellPart_0 1 rfl ?_
  refine j_lstore E 5 [(5, .long v1), (0, .ref v0), (1, .long v1), (3, .long v3)] dX12_tellPart_1 (by decide) rfl ?_
  refine j_lload_n E dX12_tellPart_3 3 rfl ?_
  refine j_lstore E 7 [(7, .long v3), (5, .long v1), (0, .ref v0), (1, .long v1), (3, .long v3)] dX12_tellPart_4 (by decide) rfl ?_
  obtain ⟨n18, h⟩ := h
  refine j_sub [2, 3, 4, 1, 0] rfl ?_
  exact m_X12_tellPart_L6 E hZ  n18 v0 v1 v3 v1 v3 I L kv0 h
set_option maxRecDepth 100000 in
def f_X12_trod (B : Nat × Nat) (v0 : Nat) (v1 : Int32) (v2 : Int32) (v3 : Int32) (Z : jZ) (I : jI) (L : jL) (Q : Int32 → jZ → jI → jL → Prop) : Prop := (∀ I1 : jI, I1 = jpI I v0 22 (0 : Int32) → (f_X12_isOne v0 v1 Z I1 L (fun r8 I4 L5 => ((r8 = 0 → Q (-1 : Int32) Z I4 L5) ∧ (¬ (r8 = 0) → (f_X12_isCost v2 Z I4 L5 (fun r16 I12 L13 => ((r16 = 0 → Q (-1 : Int32) Z I12 L13) ∧ (¬ (r16 = 0) → (f_X12_isStep v0 v3 Z I12 L13 (fun r24 I20 L21 => ((¬ r24 = 0 → (f_X12_countTreading B v0 v1 v2 v3 Z I20 L21 (fun r32 Z27 I28 L29 => (f_X12_countWays B v0 v1 v2 Z27 I28 L29 (fun r40 Z35 I36 L37 => ((¬ r40 = 0 → (∀ I43 : jI, I43 = jpI I36 v0 21 (0 : Int32) → (f_X12_tellPart v0 (r32.toInt64) (r40.toInt64) Z35 I43 L37 (fun I46 L47 => Q (0 : Int32) Z35 I46 L47)))) ∧ (r40 = 0 → Q (-2 : Int32) Z35 I36 L37))))))) ∧ (r24 = 0 → Q (-1 : Int32) Z I20 L21)))))))))))))
set_option maxHeartbeats 4000000 in
set_option maxRecDepth 100000 in
theorem c_X12_trod (l : Launch) (D : va_G) (cy : jC) (B : Nat × Nat) (v0 : Nat) (v1 : Int32) (v2 : Int32) (v3 : Int32) (Z : jZ) (I : jI) (L : jL) (Q : Int32 → jZ → jI → jL → Prop) (hZ : SH Z) (hb : jin B Z) (kv0 : jk Z v0 12) (h : f_X12_trod B v0 v1 v2 v3 Z I L Q) : jCtU l yX12_trod w_X12_trod B 108 2619 D cy [.ref v0, .int v1, .int v2, .int v3] Z I L (urtI B Z Q) := by
  refine jCtU_of (cc := cX12_trod) (maxL := 6) (ret := (some .int)) (by decide +kernel) rfl (Nat.le_of_ble_eq_true rfl) ?_
  intro G eD eY eL E EU
  subst eD; subst eY; subst eL
  have E : jE G cX12_trod RX12 w_X12_trod 6 (some .int) (jrm B 108 2619 Z) jRF := E
  have hx : jext Z Z := jext_rfl
  have hc : jle Z Z := jle_rfl
  show jJ G 6 0 [(0, .ref v0), (1, .int v1), (2, .int v2), (3, .int v3)] [] Z I L (jcz Z - jcz Z) (jsz Z - jsz Z)
  refine j_aload_n E dX12_trod_0 0 rfl ?_
  refine j_iconst E (v := 0) dX12_trod_1 (by decide) ?_
  refine j_puti E 12 22 rfl rfl (by decide) (by decide) (iw iT_12) tyX12_ok nmX12 rfl rfl (tw W_690) rfl rfl rfl kv0 dX12_trod_2 ?_
  refine j_nmI (fun I1 eI1 => ?_)
  have h := h I1 eI1
  refine j_aload_n E dX12_trod_5 0 rfl ?_
  refine j_iload_n E dX12_trod_6 1 rfl ?_
  refine j_callV E [.int v1] [] (c_X12_isOne (gL G) (gD G) (gY G) v0 v1 Z I1 L _ hZ kv0 h) (gwV W_804 W_805 W_806 W_695 W_803) rfl ⟨rfl, fy_X12_isOne⟩ ⟨Nat.le_of_ble_eq_true rfl, Nat.le_of_ble_eq_true rfl⟩ (c := 12) rfl (by decide) kv0 rfl rfl (Nat.le_of_ble_eq_true rfl) (ju_kn hb) dX12_trod_7 (fun v2 Z3 I4 L5 q6 => ?_)
  obtain ⟨rfl, r8, rfl, zr8, h⟩ := q6
  show jJ G 6 10 [(0, .ref v0), (1, .int v1), (2, .int v2), (3, .int v3)] [.int r8] Z I4 L5 (jcz Z - jcz Z) (jsz Z - jsz Z)
  refine j_if_eq E 28 dX12_trod_10 (by decide) (fun c9 => ?_) (fun c9 => ?_)
  · have h := h.1 c9
    refine j_iconst E (v := -1) dX12_trod_28 (by decide) ?_
    exact ju_ireturn E EU hc hb ⟨hx, hZ, hb, _, rfl, h⟩ dX12_trod_29
  · have h := h.2 c9
    refine j_iload_n E dX12_trod_13 2 rfl ?_
    refine j_callS E [.int v2] [] (c_X12_isCost (gL G) (gD G) (gY G) v2 Z I4 L5 _ hZ  h) (gwS W_871 W_872 W_695 W_870) rfl fy_X12_isCost ⟨Nat.le_of_ble_eq_true rfl, Nat.le_of_ble_eq_true rfl⟩ rfl rfl (Nat.le_of_ble_eq_true rfl) (ju_kn hb) dX12_trod_14 (fun v10 Z11 I12 L13 q14 => ?_)
    obtain ⟨rfl, r16, rfl, zr16, h⟩ := q14
    show jJ G 6 17 [(0, .ref v0), (1, .int v1), (2, .int v2), (3, .int v3)] [.int r16] Z I12 L13 (jcz Z - jcz Z) (jsz Z - jsz Z)
    refine j_if_eq E 28 dX12_trod_17 (by decide) (fun c17 => ?_) (fun c17 => ?_)
    · have h := h.1 c17
      refine j_iconst E (v := -1) dX12_trod_28 (by decide) ?_
      exact ju_ireturn E EU hc hb ⟨hx, hZ, hb, _, rfl, h⟩ dX12_trod_29
    · have h := h.2 c17
      refine j_aload_n E dX12_trod_20 0 rfl ?_
      refine j_iload_n E dX12_trod_21 3 rfl ?_
      refine j_callV E [.int v3] [] (c_X12_isStep (gL G) (gD G) (gY G) v0 v3 Z I12 L13 _ hZ kv0 h) (gwV W_790 W_791 W_792 W_695 W_789) rfl ⟨rfl, fy_X12_isStep⟩ ⟨Nat.le_of_ble_eq_true rfl, Nat.le_of_ble_eq_true rfl⟩ (c := 12) rfl (by decide) kv0 rfl rfl (Nat.le_of_ble_eq_true rfl) (ju_kn hb) dX12_trod_22 (fun v18 Z19 I20 L21 q22 => ?_)
      obtain ⟨rfl, r24, rfl, zr24, h⟩ := q22
      show jJ G 6 25 [(0, .ref v0), (1, .int v1), (2, .int v2), (3, .int v3)] [.int r24] Z I20 L21 (jcz Z - jcz Z) (jsz Z - jsz Z)
      refine j_if_ne E 30 dX12_trod_25 (by decide) (fun c25 => ?_) (fun c25 => ?_)
      · have h := h.1 c25
        refine j_aload_n E dX12_trod_30 0 rfl ?_
        refine j_iload_n E dX12_trod_31 1 rfl ?_
        refine j_iload_n E dX12_trod_32 2 rfl ?_
        refine j_iload_n E dX12_trod_33 3 rfl ?_
        refine ju_callV E [.int v1, .int v2, .int v3] [] (c_X12_countTreading (gL G) (gD G) (gY G) B v0 v1 v2 v3 Z I20 L21 _ hZ hb kv0 h) (gwV W_878 W_879 W_880 W_695 W_877) rfl ⟨rfl, fy_X12_countTreading⟩ ⟨Nat.le_of_ble_eq_true rfl, Nat.le_of_ble_eq_true rfl⟩ (c := 12) rfl (by decide) kv0 rfl rfl (Nat.le_of_ble_eq_true rfl) (ju_f hc hb) dX12_trod_34 (fun v26 Z27 I28 L29 q30 j31 => ?_)
        refine ju_next hc j31 ?_
        have hc := jle_trans hc j31
        obtain ⟨yZ27, hZ27, hbZ27, r32, rfl, h⟩ := q30
        have hZ := hZ27
        have hx : jext Z Z27 := jext_trans hx yZ27
        have hb := hbZ27
        have k33 := (yZ27 _ _ kv0).1
        show jJ G 6 37 [(0, .ref v0), (1, .int v1), (2, .int v2), (3, .int v3)] [.int r32] Z27 I28 L29 (jcz Z27 - jcz Z) (jsz Z27 - jsz Z)
        refine j_istore E 4 [(4, .int r32), (0, .ref v0), (1, .int v1), (2, .int v2), (3, .int v3)] dX12_trod_37 (by decide) rfl ?_
        refine j_aload_n E dX12_trod_39 1 rfl ?_
        refine j_iload_n E dX12_trod_40 2 rfl ?_
        refine j_iload_n E dX12_trod_41 3 rfl ?_
        refine ju_callV E [.int v1, .int v2] [] (c_X12_countWays (gL G) (gD G) (gY G) B v0 v1 v2 Z27 I28 L29 _ hZ hb k33 h) (gwV W_874 W_875 W_876 W_695 W_873) rfl ⟨rfl, fy_X12_countWays⟩ ⟨Nat.le_of_ble_eq_true rfl, Nat.le_of_ble_eq_true rfl⟩ (c := 12) rfl (by decide) k33 rfl rfl (Nat.le_of_ble_eq_true rfl) (ju_f hc hb) dX12_trod_42 (fun v34 Z35 I36 L37 q38 j39 => ?_)
        refine ju_next hc j39 ?_
        have hc := jle_trans hc j39
        obtain ⟨yZ35, hZ35, hbZ35, r40, rfl, h⟩ := q38
        have hZ := hZ35
        have hx : jext Z Z35 := jext_trans hx yZ35
        have hb := hbZ35
        have k41 := (yZ35 _ _ k33).1
        show jJ G 6 45 [(4, .int r32), (0, .ref v0), (1, .int v1), (2, .int v2), (3, .int v3)] [.int r40] Z35 I36 L37 (jcz Z35 - jcz Z) (jsz Z35 - jsz Z)
        refine j_istore E 5 [(5, .int r40), (4, .int r32), (0, .ref v0), (1, .int v1), (2, .int v2), (3, .int v3)] dX12_trod_45 (by decide) rfl ?_
        refine j_iload E dX12_trod_47 0 rfl ?_
        refine j_if_ne E 55 dX12_trod_49 (by decide) (fun c42 => ?_) (fun c42 => ?_)
        · have h := h.1 c42
          refine j_aload_n E dX12_trod_55 2 rfl ?_
          refine j_iconst E (v := 0) dX12_trod_56 (by decide) ?_
          refine j_puti E 12 21 rfl rfl (by decide) (by decide) (iw iT_12) tyX12_ok nmX12 rfl rfl (tw W_692) rfl rfl rfl k41 dX12_trod_57 ?_
          refine j_nmI (fun I43 eI43 => ?_)
          have h := h I43 eI43
          refine j_aload_n E dX12_trod_60 2 rfl ?_
          refine j_iload E dX12_trod_61 1 rfl ?_
          refine j_i2l E dX12_trod_63 ?_
          refine j_iload E dX12_trod_64 0 rfl ?_
          refine j_i2l E dX12_trod_66 ?_
          refine j_callV E [.long (r32.toInt64), .long (r40.toInt64)] [] (c_X12_tellPart (gL G) (gD G) (gY G) v0 (r32.toInt64) (r40.toInt64) Z35 I43 L37 _ hZ k41 h) (gwV W_882 W_883 W_884 W_695 W_881) rfl ⟨rfl, fy_X12_tellPart⟩ ⟨Nat.le_of_ble_eq_true rfl, Nat.le_of_ble_eq_true rfl⟩ (c := 12) rfl (by decide) k41 rfl rfl (Nat.le_of_ble_eq_true rfl) (ju_kn hb) dX12_trod_67 (fun v44 Z45 I46 L47 q48 => ?_)
          obtain ⟨rfl, rfl, h⟩ := q48
          show jJ G 6 70 [(5, .int r40), (4, .int r32), (0, .ref v0), (1, .int v1), (2, .int v2), (3, .int v3)] [] Z35 I46 L47 (jcz Z35 - jcz Z) (jsz Z35 - jsz Z)
          refine j_iconst E (v := 0) dX12_trod_70 (by decide) ?_
          exact ju_ireturn E EU hc hb ⟨hx, hZ, hb, _, rfl, h⟩ dX12_trod_71
        · have h := h.2 c42
          refine j_bipush E (v := -2) dX12_trod_52 (by decide) ?_
          exact ju_ireturn E EU hc hb ⟨hx, hZ, hb, _, rfl, h⟩ dX12_trod_54
      · have h := h.2 c25
        refine j_iconst E (v := -1) dX12_trod_28 (by decide) ?_
        exact ju_ireturn E EU hc hb ⟨hx, hZ, hb, _, rfl, h⟩ dX12_trod_29
set_option maxRecDepth 100000 in
def f_X12_who_b56 (B : Nat × Nat) (K27 : Nat → Int32 → Int32 → Int32 → Int32 → jZ → jI → jL → Prop) (Q : Int32 → jZ → jI → jL → Prop) (v0 : Nat) (v1 : Int32) (v2 : Int32) (v4 : Int32) (s0 : Int32) (s1 : Int32) (Z : jZ) (I : jI) (L : jL) : Prop := (∀ x1 : Int32, x1 = (s0 ||| s1) → (∀ x2 : Int32, x2 = v4 + 1 → K27 v0 v1 v2 x1 x2 Z I L))
set_option maxHeartbeats 4000000 in
set_option maxRecDepth 100000 in
theorem m_X12_who_b56 {G : jG} {B : Nat × Nat} {Z0 : jZ} {Q : Int32 → jZ → jI → jL → Prop} (E : jE G cX12_who RX12 w_X12_who 5 (some .int) (jrm B 108 2619 Z0) jRF) (EU : jEU G B Z0 (urtI B Z0 Q)) (K27 : Nat → Int32 → Int32 → Int32 → Int32 → jZ → jI → jL → Prop) (hK27 : ∀ (v0 : Nat) (v1 : Int32) (v2 : Int32) (v3 : Int32) (v4 : Int32) (Z : jZ) (I : jI) (L : jL), SH Z → jext Z0 Z → jle Z0 Z → jin B Z → jk Z v0 12 → K27 v0 v1 v2 v3 v4 Z I L → jJ G 5 27 [(0, .ref v0), (1, .int v1), (2, .int v2), (3, .int v3), (4, .int v4)] [] Z I L (jcz Z - jcz Z0) (jsz Z - jsz Z0)) (v0 : Nat) (v1 : Int32) (v2 : Int32) (v4 : Int32) (s0 : Int32) (s1 : Int32) (Z : jZ) (I : jI) (L : jL) (hZ : SH Z) (hx : jext Z0 Z) (hc : jle Z0 Z) (hb : jin B Z) (kv0 : jk Z v0 12) (h : f_X12_who_b56 B K27 Q v0 v1 v2 v4 s0 s1 Z I L) : jJ G 5 56 [(0, .ref v0), (1, .int v1), (2, .int v2), (4, .int v4)] [.int s1, .int s0] Z I L (jcz Z - jcz Z0) (jsz Z - jsz Z0) := by
  refine j_ior E dX12_who_56 ?_
  refine j_topi (fun x1 ex1 => ?_)
  have h := h x1 ex1
  refine j_istore_n E 3 [(3, .int x1), (0, .ref v0), (1, .int v1), (2, .int v2), (4, .int v4)] dX12_who_57 rfl (by decide) rfl ?_
  obtain ⟨x2, ex2⟩ : ∃ y : Int32, y = v4 + 1 := ⟨_, rfl⟩
  have h := h x2 ex2
  refine j_iinc E x2 [(4, .int x2), (3, .int x1), (0, .ref v0), (1, .int v1), (2, .int v2)] dX12_who_58 4 rfl (by rw [ex2]; rfl) (by decide) rfl ?_
  refine j_goto E 27 dX12_who_61 (by decide) ?_
  refine j_sub [2, 3, 4, 1, 0] rfl ?_
  exact hK27 v0 v1 v2 x1 x2 Z I L hZ hx hc hb kv0 h
set_option maxRecDepth 100000 in
def f_X12_who_L27 (B : Nat × Nat)  (Q : Int32 → jZ → jI → jL → Prop) : Nat → Nat → Int32 → Int32 → Int32 → Int32 → jZ → jI → jL → Prop
  | 0 => fun _ _ _ _ _ _ _ _ => False
  | n + 1 => fun v0 v1 v2 v3 v4 Z I L => (((I v0 8) ≤ v4 → Q v3 Z I L) ∧ (¬ ((I v0 8) ≤ v4) → (f_X12_countTreading B v0 v4 v1 v2 Z I L (fun r10 Z5 I6 L7 => ((r10 ≤ 0 → f_X12_who_b56 B (f_X12_who_L27 B Q n) Q v0 v1 v2 v4 v3 (0 : Int32) Z5 I6 L7) ∧ (¬ (r10 ≤ 0) → f_X12_who_b56 B (f_X12_who_L27 B Q n) Q v0 v1 v2 v4 v3 ((1 : Int32) <<< (v4 &&& 31)) Z5 I6 L7))))))
set_option maxHeartbeats 4000000 in
set_option maxRecDepth 100000 in
theorem m_X12_who_L27 {G : jG} {Z0 : jZ} {B : Nat × Nat} {Q : Int32 → jZ → jI → jL → Prop} (E : jE G cX12_who RX12 w_X12_who 5 (some .int) (jrm B 108 2619 Z0) jRF) (EU : jEU G B Z0 (urtI B Z0 Q))  : ∀ (n : Nat) (v0 : Nat) (v1 : Int32) (v2 : Int32) (v3 : Int32) (v4 : Int32) (Z : jZ) (I : jI) (L : jL), SH Z → jext Z0 Z → jle Z0 Z → jin B Z → jk Z v0 12 → f_X12_who_L27 B  Q n v0 v1 v2 v3 v4 Z I L → jJ G 5 27 [(0, .ref v0), (1, .int v1), (2, .int v2), (3, .int v3), (4, .int v4)] [] Z I L (jcz Z - jcz Z0) (jsz Z - jsz Z0) := by
  intro n
  induction n with
  | zero => intro v0 v1 v2 v3 v4 Z I L _ _ _ _ _ h; exact h.elim
  | succ n ih =>
    intro v0 v1 v2 v3 v4 Z I L hZ hx hc hb kv0 h
    have h : (((I v0 8) ≤ v4 → Q v3 Z I L) ∧ (¬ ((I v0 8) ≤ v4) → (f_X12_countTreading B v0 v4 v1 v2 Z I L (fun r10 Z5 I6 L7 => ((r10 ≤ 0 → f_X12_who_b56 B (f_X12_who_L27 B Q n) Q v0 v1 v2 v4 v3 (0 : Int32) Z5 I6 L7) ∧ (¬ (r10 ≤ 0) → f_X12_who_b56 B (f_X12_who_L27 B Q n) Q v0 v1 v2 v4 v3 ((1 : Int32) <<< (v4 &&& 31)) Z5 I6 L7)))))) := h
    obtain ⟨K27, eK27⟩ : ∃ K : Nat → Int32 → Int32 → Int32 → Int32 → jZ → jI → jL → Prop, K = f_X12_who_L27 B  Q n := ⟨_, rfl⟩
    have hK27 := ih
    clear eK27 K27
    generalize f_X12_who_L27 B  Q n = K27 at hK27 h
    refine j_iload E dX12_who_27 4 rfl ?_
    refine j_aload_n E dX12_who_29 0 rfl ?_
    refine j_geti E 12 8 rfl rfl (by decide) (by decide) (iw iT_12) rfl rfl (tw W_698) kv0 dX12_who_30 ?_
    refine j_icmp_ge E 64 dX12_who_33 (by decide) (fun c3 => ?_) (fun c3 => ?_)
    · have h := h.1 c3
      refine j_iload_n E dX12_who_64 3 rfl ?_
      exact ju_ireturn E EU hc hb ⟨hx, hZ, hb, _, rfl, h⟩ dX12_who_65
    · have h := h.2 c3
      refine j_iload_n E dX12_who_36 3 rfl ?_
      refine j_aload_n E dX12_who_37 0 rfl ?_
      refine j_iload E dX12_who_38 4 rfl ?_
      refine j_iload_n E dX12_who_40 1 rfl ?_
      refine j_iload_n E dX12_who_41 2 rfl ?_
      refine ju_callV E [.int v4, .int v1, .int v2] [.int v3] (c_X12_countTreading (gL G) (gD G) (gY G) B v0 v4 v1 v2 Z I L _ hZ hb kv0 h) (gwV W_878 W_879 W_880 W_695 W_877) rfl ⟨rfl, fy_X12_countTreading⟩ ⟨Nat.le_of_ble_eq_true rfl, Nat.le_of_ble_eq_true rfl⟩ (c := 12) rfl (by decide) kv0 rfl rfl (Nat.le_of_ble_eq_true rfl) (ju_f hc hb) dX12_who_42 (fun v4 Z5 I6 L7 q8 j9 => ?_)
      refine ju_next hc j9 ?_
      have hc := jle_trans hc j9
      obtain ⟨yZ5, hZ5, hbZ5, r10, rfl, h⟩ := q8
      have hZ := hZ5
      have hx : jext Z0 Z5 := jext_trans hx yZ5
      have hb := hbZ5
      have k11 := (yZ5 _ _ kv0).1
      show jJ G 5 45 [(0, .ref v0), (1, .int v1), (2, .int v2), (3, .int v3), (4, .int v4)] [.int r10, .int v3] Z5 I6 L7 (jcz Z5 - jcz Z0) (jsz Z5 - jsz Z0)
      refine j_if_le E 55 dX12_who_45 (by decide) (fun c12 => ?_) (fun c12 => ?_)
      · have h := h.1 c12
        refine j_iconst E (v := 0) dX12_who_55 (by decide) ?_
        refine j_sub [0, 1, 2, 4] rfl ?_
        exact m_X12_who_b56 E EU K27 hK27 v0 v1 v2 v4 v3 (0 : Int32) Z5 I6 L7 hZ hx hc hb k11 h
      · have h := h.2 c12
        refine j_iconst E (v := 1) dX12_who_48 (by decide) ?_
        refine j_iload E dX12_who_49 4 rfl ?_
        refine j_ishl E dX12_who_51 ?_
        refine j_goto E 56 dX12_who_52 (by decide) ?_
        refine j_sub [0, 1, 2, 4] rfl ?_
        exact m_X12_who_b56 E EU K27 hK27 v0 v1 v2 v4 v3 ((1 : Int32) <<< (v4 &&& 31)) Z5 I6 L7 hZ hx hc hb k11 h
set_option maxRecDepth 100000 in
def f_X12_who (B : Nat × Nat) (v0 : Nat) (v1 : Int32) (v2 : Int32) (Z : jZ) (I : jI) (L : jL) (Q : Int32 → jZ → jI → jL → Prop) : Prop := (∀ I13 : jI, I13 = jpI I v0 22 (0 : Int32) → (f_X12_isCost v1 Z I13 L (fun r20 I16 L17 => ((r20 = 0 → Q (-1 : Int32) Z I16 L17) ∧ (¬ (r20 = 0) → (f_X12_isStep v0 v2 Z I16 L17 (fun r28 I24 L25 => ((¬ r28 = 0 → (∃ m27 : Nat, f_X12_who_L27 B  Q m27 v0 v1 v2 (0 : Int32) (0 : Int32) Z I24 L25)) ∧ (r28 = 0 → Q (-1 : Int32) Z I24 L25)))))))))
set_option maxHeartbeats 4000000 in
set_option maxRecDepth 100000 in
theorem c_X12_who (l : Launch) (D : va_G) (cy : jC) (B : Nat × Nat) (v0 : Nat) (v1 : Int32) (v2 : Int32) (Z : jZ) (I : jI) (L : jL) (Q : Int32 → jZ → jI → jL → Prop) (hZ : SH Z) (hb : jin B Z) (kv0 : jk Z v0 12) (h : f_X12_who B v0 v1 v2 Z I L Q) : jCtU l yX12_who w_X12_who B 108 2619 D cy [.ref v0, .int v1, .int v2] Z I L (urtI B Z Q) := by
  refine jCtU_of (cc := cX12_who) (maxL := 5) (ret := (some .int)) (by decide +kernel) rfl (Nat.le_of_ble_eq_true rfl) ?_
  intro G eD eY eL E EU
  subst eD; subst eY; subst eL
  have E : jE G cX12_who RX12 w_X12_who 5 (some .int) (jrm B 108 2619 Z) jRF := E
  have hx : jext Z Z := jext_rfl
  have hc : jle Z Z := jle_rfl
  show jJ G 5 0 [(0, .ref v0), (1, .int v1), (2, .int v2)] [] Z I L (jcz Z - jcz Z) (jsz Z - jsz Z)
  refine j_aload_n E dX12_who_0 0 rfl ?_
  refine j_iconst E (v := 0) dX12_who_1 (by decide) ?_
  refine j_puti E 12 22 rfl rfl (by decide) (by decide) (iw iT_12) tyX12_ok nmX12 rfl rfl (tw W_690) rfl rfl rfl kv0 dX12_who_2 ?_
  refine j_nmI (fun I13 eI13 => ?_)
  have h := h I13 eI13
  refine j_iload_n E dX12_who_5 1 rfl ?_
  refine j_callS E [.int v1] [] (c_X12_isCost (gL G) (gD G) (gY G) v1 Z I13 L _ hZ  h) (gwS W_871 W_872 W_695 W_870) rfl fy_X12_isCost ⟨Nat.le_of_ble_eq_true rfl, Nat.le_of_ble_eq_true rfl⟩ rfl rfl (Nat.le_of_ble_eq_true rfl) (ju_kn hb) dX12_who_6 (fun v14 Z15 I16 L17 q18 => ?_)
  obtain ⟨rfl, r20, rfl, zr20, h⟩ := q18
  show jJ G 5 9 [(0, .ref v0), (1, .int v1), (2, .int v2)] [.int r20] Z I16 L17 (jcz Z - jcz Z) (jsz Z - jsz Z)
  refine j_if_eq E 20 dX12_who_9 (by decide) (fun c21 => ?_) (fun c21 => ?_)
  · have h := h.1 c21
    refine j_iconst E (v := -1) dX12_who_20 (by decide) ?_
    exact ju_ireturn E EU hc hb ⟨hx, hZ, hb, _, rfl, h⟩ dX12_who_21
  · have h := h.2 c21
    refine j_aload_n E dX12_who_12 0 rfl ?_
    refine j_iload_n E dX12_who_13 2 rfl ?_
    refine j_callV E [.int v2] [] (c_X12_isStep (gL G) (gD G) (gY G) v0 v2 Z I16 L17 _ hZ kv0 h) (gwV W_790 W_791 W_792 W_695 W_789) rfl ⟨rfl, fy_X12_isStep⟩ ⟨Nat.le_of_ble_eq_true rfl, Nat.le_of_ble_eq_true rfl⟩ (c := 12) rfl (by decide) kv0 rfl rfl (Nat.le_of_ble_eq_true rfl) (ju_kn hb) dX12_who_14 (fun v22 Z23 I24 L25 q26 => ?_)
    obtain ⟨rfl, r28, rfl, zr28, h⟩ := q26
    show jJ G 5 17 [(0, .ref v0), (1, .int v1), (2, .int v2)] [.int r28] Z I24 L25 (jcz Z - jcz Z) (jsz Z - jsz Z)
    refine j_if_ne E 22 dX12_who_17 (by decide) (fun c29 => ?_) (fun c29 => ?_)
    · have h := h.1 c29
      refine j_iconst E (v := 0) dX12_who_22 (by decide) ?_
      refine j_istore_n E 3 [(3, .int (0 : Int32)), (0, .ref v0), (1, .int v1), (2, .int v2)] dX12_who_23 rfl (by decide) rfl ?_
      refine j_iconst E (v := 0) dX12_who_24 (by decide) ?_
      refine j_istore E 4 [(4, .int (0 : Int32)), (3, .int (0 : Int32)), (0, .ref v0), (1, .int v1), (2, .int v2)] dX12_who_25 (by decide) rfl ?_
      obtain ⟨n30, h⟩ := h
      refine j_sub [2, 3, 4, 1, 0] rfl ?_
      exact m_X12_who_L27 E EU  n30 v0 v1 v2 (0 : Int32) (0 : Int32) Z I24 L25 hZ hx hc hb kv0 h
    · have h := h.2 c29
      refine j_iconst E (v := -1) dX12_who_20 (by decide) ?_
      exact ju_ireturn E EU hc hb ⟨hx, hZ, hb, _, rfl, h⟩ dX12_who_21
set_option maxRecDepth 100000 in
def f_X12_findByCost_b142 (K7 : Nat → Int32 → Int32 → jI → jL → Prop) (K14 : Nat → Int32 → Int32 → Int32 → jI → jL → Prop) (K45 : Nat → Int32 → Int32 → Int32 → Int32 → Int32 → jI → jL → Prop) (Z : jZ) (Q : jI → jL → Prop) (v0 : Nat) (v1 : Int32) (v2 : Int32) (v3 : Int32) (v4 : Int32) (v5 : Int32) (I : jI) (L : jL) : Prop := (∀ x1 : Int32, x1 = v5 + 1 → K45 v0 v1 v2 v3 v4 x1 I L)
set_option maxHeartbeats 4000000 in
set_option maxRecDepth 100000 in
theorem m_X12_findByCost_b142 {G : jG} {Z : jZ} {Q : jI → jL → Prop} (E : jE G cX12_findByCost RX12 w_X12_findByCost 8 none { frames := 1, cells := 0, slots := 0, locals := 23 } (rtV Z Q)) (hZ : SH Z) (K7 : Nat → Int32 → Int32 → jI → jL → Prop) (hK7 : ∀ (v0 : Nat) (v1 : Int32) (v2 : Int32) (I : jI) (L : jL), jk Z v0 12 → K7 v0 v1 v2 I L → jJ G 8 7 [(0, .ref v0), (1, .int v1), (2, .int v2)] [] Z I L 0 0) (K14 : Nat → Int32 → Int32 → Int32 → jI → jL → Prop) (hK14 : ∀ (v0 : Nat) (v1 : Int32) (v2 : Int32) (v3 : Int32) (I : jI) (L : jL), jk Z v0 12 → K14 v0 v1 v2 v3 I L → jJ G 8 14 [(0, .ref v0), (1, .int v1), (2, .int v2), (3, .int v3)] [] Z I L 0 0) (K45 : Nat → Int32 → Int32 → Int32 → Int32 → Int32 → jI → jL → Prop) (hK45 : ∀ (v0 : Nat) (v1 : Int32) (v2 : Int32) (v3 : Int32) (v4 : Int32) (v5 : Int32) (I : jI) (L : jL), jk Z v0 12 → K45 v0 v1 v2 v3 v4 v5 I L → jJ G 8 45 [(0, .ref v0), (1, .int v1), (2, .int v2), (3, .int v3), (4, .int v4), (5, .int v5)] [] Z I L 0 0) (v0 : Nat) (v1 : Int32) (v2 : Int32) (v3 : Int32) (v4 : Int32) (v5 : Int32) (I : jI) (L : jL) (kv0 : jk Z v0 12) (h : f_X12_findByCost_b142 K7 K14 K45 Z Q v0 v1 v2 v3 v4 v5 I L) : jJ G 8 142 [(0, .ref v0), (1, .int v1), (2, .int v2), (3, .int v3), (4, .int v4), (5, .int v5)] [] Z I L 0 0 := by
  obtain ⟨x1, ex1⟩ : ∃ y : Int32, y = v5 + 1 := ⟨_, rfl⟩
  have h := h x1 ex1
  refine j_iinc E x1 [(5, .int x1), (0, .ref v0), (1, .int v1), (2, .int v2), (3, .int v3), (4, .int v4)] dX12_findByCost_142 5 rfl (by rw [ex1]; rfl) (by decide) rfl ?_
  refine j_goto E 45 dX12_findByCost_145 (by decide) ?_
  refine j_sub [1, 2, 3, 4, 5, 0] rfl ?_
  exact hK45 v0 v1 v2 v3 v4 x1 I L kv0 h
set_option maxRecDepth 100000 in
def f_X12_findByCost_L45 (K7 : Nat → Int32 → Int32 → jI → jL → Prop) (K14 : Nat → Int32 → Int32 → Int32 → jI → jL → Prop) (Z : jZ) (Q : jI → jL → Prop) : Nat → Nat → Int32 → Int32 → Int32 → Int32 → Int32 → jI → jL → Prop
  | 0 => fun _ _ _ _ _ _ _ _ => False
  | n + 1 => fun v0 v1 v2 v3 v4 v5 I L => (((3 : Int32) < v5 → (∀ b3 : Nat, jr Z v0 40 = some b3 → (vp_in (((1000 : Int32) * (v2 + (1 : Int32))) + v3) 25000 ∧ (∀ I5 : jI, I5 = jpI I b3 (((1000 : Int32) * (v2 + (1 : Int32))) + v3).toNatClampNeg v4 → (∀ x6 : Int32, x6 = v3 + 1 → K14 v0 v1 v2 x6 I5 L))))) ∧ (¬ ((3 : Int32) < v5) → (∀ x7 : Int32, x7 = ((((3 : Int32) * (v2 + (1 : Int32))) + v5) - (1 : Int32)) → (∀ b8 : Nat, jr Z v0 37 = some b8 → (vp_in x7 75 ∧ (((I b8 x7.toNatClampNeg) = (1000000000 : Int32) → f_X12_findByCost_b142 K7 K14 (f_X12_findByCost_L45 K7 K14 Z Q n) Z Q v0 v1 v2 v3 v4 v5 I L) ∧ (¬ ((I b8 x7.toNatClampNeg) = (1000000000 : Int32)) → (∀ b11 : Nat, jr Z v0 37 = some b11 → (vp_in x7 75 ∧ (((I b11 x7.toNatClampNeg) ≤ v3 → (∀ b14 : Nat, jr Z v0 40 = some b14 → (∀ b15 : Nat, jr Z v0 37 = some b15 → (vp_in x7 75 ∧ (vp_in ((((1000 : Int32) * ((v2 + v5) + (1 : Int32))) + v3) - (I b15 x7.toNatClampNeg)) 25000 ∧ (∀ x18 : Int32, x18 = (I b14 ((((1000 : Int32) * ((v2 + v5) + (1 : Int32))) + v3) - (I b15 x7.toNatClampNeg)).toNatClampNeg) → ((x18 = (1000000000 : Int32) → f_X12_findByCost_b142 K7 K14 (f_X12_findByCost_L45 K7 K14 Z Q n) Z Q v0 v1 v2 v3 v4 v5 I L) ∧ (¬ (x18 = (1000000000 : Int32)) → (∀ b20 : Nat, jr Z v0 38 = some b20 → (vp_in x7 75 ∧ (∀ x22 : Int32, x22 = (if (x18 + (I b20 x7.toNatClampNeg)) < v4 then (x18 + (I b20 x7.toNatClampNeg)) else v4) → f_X12_findByCost_b142 K7 K14 (f_X12_findByCost_L45 K7 K14 Z Q n) Z Q v0 v1 v2 v3 x22 v5 I L))))))))))) ∧ (¬ ((I b11 x7.toNatClampNeg) ≤ v3) → f_X12_findByCost_b142 K7 K14 (f_X12_findByCost_L45 K7 K14 Z Q n) Z Q v0 v1 v2 v3 v4 v5 I L)))))))))))
set_option maxHeartbeats 4000000 in
set_option maxRecDepth 100000 in
theorem m_X12_findByCost_L45 {G : jG} {Z : jZ} {Q : jI → jL → Prop} (E : jE G cX12_findByCost RX12 w_X12_findByCost 8 none { frames := 1, cells := 0, slots := 0, locals := 23 } (rtV Z Q)) (hZ : SH Z) (K7 : Nat → Int32 → Int32 → jI → jL → Prop) (hK7 : ∀ (v0 : Nat) (v1 : Int32) (v2 : Int32) (I : jI) (L : jL), jk Z v0 12 → K7 v0 v1 v2 I L → jJ G 8 7 [(0, .ref v0), (1, .int v1), (2, .int v2)] [] Z I L 0 0) (K14 : Nat → Int32 → Int32 → Int32 → jI → jL → Prop) (hK14 : ∀ (v0 : Nat) (v1 : Int32) (v2 : Int32) (v3 : Int32) (I : jI) (L : jL), jk Z v0 12 → K14 v0 v1 v2 v3 I L → jJ G 8 14 [(0, .ref v0), (1, .int v1), (2, .int v2), (3, .int v3)] [] Z I L 0 0) : ∀ (n : Nat) (v0 : Nat) (v1 : Int32) (v2 : Int32) (v3 : Int32) (v4 : Int32) (v5 : Int32) (I : jI) (L : jL), jk Z v0 12 → f_X12_findByCost_L45 K7 K14 Z Q n v0 v1 v2 v3 v4 v5 I L → jJ G 8 45 [(0, .ref v0), (1, .int v1), (2, .int v2), (3, .int v3), (4, .int v4), (5, .int v5)] [] Z I L 0 0 := by
  intro n
  induction n with
  | zero => intro v0 v1 v2 v3 v4 v5 I L _ h; exact h.elim
  | succ n ih =>
    intro v0 v1 v2 v3 v4 v5 I L kv0 h
    have h : (((3 : Int32) < v5 → (∀ b3 : Nat, jr Z v0 40 = some b3 → (vp_in (((1000 : Int32) * (v2 + (1 : Int32))) + v3) 25000 ∧ (∀ I5 : jI, I5 = jpI I b3 (((1000 : Int32) * (v2 + (1 : Int32))) + v3).toNatClampNeg v4 → (∀ x6 : Int32, x6 = v3 + 1 → K14 v0 v1 v2 x6 I5 L))))) ∧ (¬ ((3 : Int32) < v5) → (∀ x7 : Int32, x7 = ((((3 : Int32) * (v2 + (1 : Int32))) + v5) - (1 : Int32)) → (∀ b8 : Nat, jr Z v0 37 = some b8 → (vp_in x7 75 ∧ (((I b8 x7.toNatClampNeg) = (1000000000 : Int32) → f_X12_findByCost_b142 K7 K14 (f_X12_findByCost_L45 K7 K14 Z Q n) Z Q v0 v1 v2 v3 v4 v5 I L) ∧ (¬ ((I b8 x7.toNatClampNeg) = (1000000000 : Int32)) → (∀ b11 : Nat, jr Z v0 37 = some b11 → (vp_in x7 75 ∧ (((I b11 x7.toNatClampNeg) ≤ v3 → (∀ b14 : Nat, jr Z v0 40 = some b14 → (∀ b15 : Nat, jr Z v0 37 = some b15 → (vp_in x7 75 ∧ (vp_in ((((1000 : Int32) * ((v2 + v5) + (1 : Int32))) + v3) - (I b15 x7.toNatClampNeg)) 25000 ∧ (∀ x18 : Int32, x18 = (I b14 ((((1000 : Int32) * ((v2 + v5) + (1 : Int32))) + v3) - (I b15 x7.toNatClampNeg)).toNatClampNeg) → ((x18 = (1000000000 : Int32) → f_X12_findByCost_b142 K7 K14 (f_X12_findByCost_L45 K7 K14 Z Q n) Z Q v0 v1 v2 v3 v4 v5 I L) ∧ (¬ (x18 = (1000000000 : Int32)) → (∀ b20 : Nat, jr Z v0 38 = some b20 → (vp_in x7 75 ∧ (∀ x22 : Int32, x22 = (if (x18 + (I b20 x7.toNatClampNeg)) < v4 then (x18 + (I b20 x7.toNatClampNeg)) else v4) → f_X12_findByCost_b142 K7 K14 (f_X12_findByCost_L45 K7 K14 Z Q n) Z Q v0 v1 v2 v3 x22 v5 I L))))))))))) ∧ (¬ ((I b11 x7.toNatClampNeg) ≤ v3) → f_X12_findByCost_b142 K7 K14 (f_X12_findByCost_L45 K7 K14 Z Q n) Z Q v0 v1 v2 v3 v4 v5 I L))))))))))) := h
    obtain ⟨K45, eK45⟩ : ∃ K : Nat → Int32 → Int32 → Int32 → Int32 → Int32 → jI → jL → Prop, K = f_X12_findByCost_L45 K7 K14 Z Q n := ⟨_, rfl⟩
    have hK45 := ih
    clear eK45 K45
    generalize f_X12_findByCost_L45 K7 K14 Z Q n = K45 at hK45 h
    refine j_iload E dX12_findByCost_45 5 rfl ?_
    refine j_iconst E (v := 3) dX12_findByCost_47 (by decide) ?_
    refine j_icmp_gt E 148 dX12_findByCost_48 (by decide) (fun c2 => ?_) (fun c2 => ?_)
    · have h := h.1 c2
      refine j_aload_n E dX12_findByCost_148 0 rfl ?_
      obtain ⟨b3, eb3, kb3, lb3⟩ := sh_f hZ kv0 (j := 40) (k := 14) (m := 25000) rfl
      have h := h b3 eb3
      refine j_getr E 12 40 rfl rfl (by decide) (by decide) (iw iT_12) rfl rfl (tw W_846) kv0 eb3 dX12_findByCost_149 ?_
      refine j_sipush E (v := 1000) dX12_findByCost_152 (by decide) ?_
      refine j_iload_n E dX12_findByCost_155 2 rfl ?_
      refine j_iconst E (v := 1) dX12_findByCost_156 (by decide) ?_
      refine j_iadd E dX12_findByCost_157 ?_
      refine j_imul E dX12_findByCost_158 ?_
      refine j_iload_n E dX12_findByCost_159 3 rfl ?_
      refine j_iadd E dX12_findByCost_160 ?_
      refine j_iload E dX12_findByCost_161 4 rfl ?_
      obtain ⟨o4, h⟩ := h
      refine j_iast E kb3 (by rw [lb3]; exact o4) dX12_findByCost_163 ?_
      refine j_nmI (fun I5 eI5 => ?_)
      have h := h I5 eI5
      obtain ⟨x6, ex6⟩ : ∃ y : Int32, y = v3 + 1 := ⟨_, rfl⟩
      have h := h x6 ex6
      refine j_iinc E x6 [(3, .int x6), (0, .ref v0), (1, .int v1), (2, .int v2), (4, .int v4), (5, .int v5)] dX12_findByCost_164 3 rfl (by rw [ex6]; rfl) (by decide) rfl ?_
      refine j_goto E 14 dX12_findByCost_167 (by decide) ?_
      refine j_sub [1, 2, 3, 0] rfl ?_
      exact hK14 v0 v1 v2 x6 I5 L kv0 h
    · have h := h.2 c2
      refine j_iconst E (v := 3) dX12_findByCost_51 (by decide) ?_
      refine j_iload_n E dX12_findByCost_52 2 rfl ?_
      refine j_iconst E (v := 1) dX12_findByCost_53 (by decide) ?_
      refine j_iadd E dX12_findByCost_54 ?_
      refine j_imul E dX12_findByCost_55 ?_
      refine j_iload E dX12_findByCost_56 5 rfl ?_
      refine j_iadd E dX12_findByCost_58 ?_
      refine j_iconst E (v := 1) dX12_findByCost_59 (by decide) ?_
      refine j_isub E dX12_findByCost_60 ?_
      refine j_topi (fun x7 ex7 => ?_)
      have h := h x7 ex7
      refine j_istore E 6 [(6, .int x7), (0, .ref v0), (1, .int v1), (2, .int v2), (3, .int v3), (4, .int v4), (5, .int v5)] dX12_findByCost_61 (by decide) rfl ?_
      refine j_aload_n E dX12_findByCost_63 1 rfl ?_
      obtain ⟨b8, eb8, kb8, lb8⟩ := sh_f hZ kv0 (j := 37) (k := 14) (m := 75) rfl
      have h := h b8 eb8
      refine j_getr E 12 37 rfl rfl (by decide) (by decide) (iw iT_12) rfl rfl (tw W_842) kv0 eb8 dX12_findByCost_64 ?_
      refine j_iload E dX12_findByCost_67 0 rfl ?_
      obtain ⟨o9, h⟩ := h
      refine j_iald E kb8 (by rw [lb8]; exact o9) dX12_findByCost_69 ?_
      refine j_ldcw E (tw W_843) dX12_findByCost_70 ?_
      refine j_icmp_eq E 142 dX12_findByCost_73 (by decide) (fun c10 => ?_) (fun c10 => ?_)
      · have h := h.1 c10
        refine j_sub [1, 2, 3, 4, 5, 6] rfl ?_
        exact m_X12_findByCost_b142 E hZ K7 hK7 K14 hK14 K45 hK45 v0 v1 v2 v3 v4 v5 I L kv0 h
      · have h := h.2 c10
        refine j_aload_n E dX12_findByCost_76 1 rfl ?_
        obtain ⟨b11, eb11, kb11, lb11⟩ := sh_f hZ kv0 (j := 37) (k := 14) (m := 75) rfl
        have h := h b11 eb11
        refine j_getr E 12 37 rfl rfl (by decide) (by decide) (iw iT_12) rfl rfl (tw W_842) kv0 eb11 dX12_findByCost_77 ?_
        refine j_iload E dX12_findByCost_80 0 rfl ?_
        obtain ⟨o12, h⟩ := h
        refine j_iald E kb11 (by rw [lb11]; exact o12) dX12_findByCost_82 ?_
        refine j_iload_n E dX12_findByCost_83 4 rfl ?_
        refine j_icmp_le E 90 dX12_findByCost_84 (by decide) (fun c13 => ?_) (fun c13 => ?_)
        · have h := h.1 c13
          refine j_aload_n E dX12_findByCost_90 1 rfl ?_
          obtain ⟨b14, eb14, kb14, lb14⟩ := sh_f hZ kv0 (j := 40) (k := 14) (m := 25000) rfl
          have h := h b14 eb14
          refine j_getr E 12 40 rfl rfl (by decide) (by decide) (iw iT_12) rfl rfl (tw W_846) kv0 eb14 dX12_findByCost_91 ?_
          refine j_sipush E (v := 1000) dX12_findByCost_94 (by decide) ?_
          refine j_iload_n E dX12_findByCost_97 3 rfl ?_
          refine j_iload E dX12_findByCost_98 6 rfl ?_
          refine j_iadd E dX12_findByCost_100 ?_
          refine j_iconst E (v := 1) dX12_findByCost_101 (by decide) ?_
          refine j_iadd E dX12_findByCost_102 ?_
          refine j_imul E dX12_findByCost_103 ?_
          refine j_iload_n E dX12_findByCost_104 4 rfl ?_
          refine j_iadd E dX12_findByCost_105 ?_
          refine j_aload_n E dX12_findByCost_106 1 rfl ?_
          obtain ⟨b15, eb15, kb15, lb15⟩ := sh_f hZ kv0 (j := 37) (k := 14) (m := 75) rfl
          have h := h b15 eb15
          refine j_getr E 12 37 rfl rfl (by decide) (by decide) (iw iT_12) rfl rfl (tw W_842) kv0 eb15 dX12_findByCost_107 ?_
          refine j_iload E dX12_findByCost_110 0 rfl ?_
          obtain ⟨o16, h⟩ := h
          refine j_iald E kb15 (by rw [lb15]; exact o16) dX12_findByCost_112 ?_
          refine j_isub E dX12_findByCost_113 ?_
          obtain ⟨o17, h⟩ := h
          refine j_iald E kb14 (by rw [lb14]; exact o17) dX12_findByCost_114 ?_
          refine j_topi (fun x18 ex18 => ?_)
          have h := h x18 ex18
          refine j_istore E 7 [(7, .int x18), (6, .int x7), (0, .ref v0), (1, .int v1), (2, .int v2), (3, .int v3), (4, .int v4), (5, .int v5)] dX12_findByCost_115 (by decide) rfl ?_
          refine j_iload E dX12_findByCost_117 0 rfl ?_
          refine j_ldcw E (tw W_843) dX12_findByCost_119 ?_
          refine j_icmp_eq E 142 dX12_findByCost_122 (by decide) (fun c19 => ?_) (fun c19 => ?_)
          · have h := h.1 c19
            refine j_sub [2, 3, 4, 5, 6, 7] rfl ?_
            exact m_X12_findByCost_b142 E hZ K7 hK7 K14 hK14 K45 hK45 v0 v1 v2 v3 v4 v5 I L kv0 h
          · have h := h.2 c19
            refine j_iload E dX12_findByCost_125 6 rfl ?_
            refine j_iload E dX12_findByCost_127 0 rfl ?_
            refine j_aload_n E dX12_findByCost_129 2 rfl ?_
            obtain ⟨b20, eb20, kb20, lb20⟩ := sh_f hZ kv0 (j := 38) (k := 14) (m := 75) rfl
            have h := h b20 eb20
            refine j_getr E 12 38 rfl rfl (by decide) (by decide) (iw iT_12) rfl rfl (tw W_845) kv0 eb20 dX12_findByCost_130 ?_
            refine j_iload E dX12_findByCost_133 1 rfl ?_
            obtain ⟨o21, h⟩ := h
            refine j_iald E kb20 (by rw [lb20]; exact o21) dX12_findByCost_135 ?_
            refine j_iadd E dX12_findByCost_136 ?_
            refine j_min E (tw W_783) (tw W_7) (tw W_8) (tw W_9) (Nat.le_of_ble_eq_true rfl) (Nat.le_of_ble_eq_true rfl) (Nat.zero_le _) (Nat.zero_le _) dX12_findByCost_137 ?_
            refine j_topi (fun x22 ex22 => ?_)
            have h := h x22 ex22
            refine j_istore E 4 [(4, .int x22), (7, .int x18), (6, .int x7), (0, .ref v0), (1, .int v1), (2, .int v2), (3, .int v3), (5, .int v5)] dX12_findByCost_140 (by decide) rfl ?_
            refine j_sub [3, 4, 5, 6, 0, 7] rfl ?_
            exact m_X12_findByCost_b142 E hZ K7 hK7 K14 hK14 K45 hK45 v0 v1 v2 v3 x22 v5 I L kv0 h
        · have h := h.2 c13
          refine j_goto E 142 dX12_findByCost_87 (by decide) ?_
          refine j_sub [1, 2, 3, 4, 5, 6] rfl ?_
          exact m_X12_findByCost_b142 E hZ K7 hK7 K14 hK14 K45 hK45 v0 v1 v2 v3 v4 v5 I L kv0 h
set_option maxRecDepth 100000 in
def f_X12_findByCost_b40 (K7 : Nat → Int32 → Int32 → jI → jL → Prop) (K14 : Nat → Int32 → Int32 → Int32 → jI → jL → Prop) (Z : jZ) (Q : jI → jL → Prop) (v0 : Nat) (v1 : Int32) (v2 : Int32) (v3 : Int32) (s0 : Int32) (I : jI) (L : jL) : Prop := (∃ m45 : Nat, f_X12_findByCost_L45 K7 K14 Z Q m45 v0 v1 v2 v3 s0 (1 : Int32) I L)
set_option maxHeartbeats 4000000 in
set_option maxRecDepth 100000 in
theorem m_X12_findByCost_b40 {G : jG} {Z : jZ} {Q : jI → jL → Prop} (E : jE G cX12_findByCost RX12 w_X12_findByCost 8 none { frames := 1, cells := 0, slots := 0, locals := 23 } (rtV Z Q)) (hZ : SH Z) (K7 : Nat → Int32 → Int32 → jI → jL → Prop) (hK7 : ∀ (v0 : Nat) (v1 : Int32) (v2 : Int32) (I : jI) (L : jL), jk Z v0 12 → K7 v0 v1 v2 I L → jJ G 8 7 [(0, .ref v0), (1, .int v1), (2, .int v2)] [] Z I L 0 0) (K14 : Nat → Int32 → Int32 → Int32 → jI → jL → Prop) (hK14 : ∀ (v0 : Nat) (v1 : Int32) (v2 : Int32) (v3 : Int32) (I : jI) (L : jL), jk Z v0 12 → K14 v0 v1 v2 v3 I L → jJ G 8 14 [(0, .ref v0), (1, .int v1), (2, .int v2), (3, .int v3)] [] Z I L 0 0) (v0 : Nat) (v1 : Int32) (v2 : Int32) (v3 : Int32) (s0 : Int32) (I : jI) (L : jL) (kv0 : jk Z v0 12) (h : f_X12_findByCost_b40 K7 K14 Z Q v0 v1 v2 v3 s0 I L) : jJ G 8 40 [(0, .ref v0), (1, .int v1), (2, .int v2), (3, .int v3)] [.int s0] Z I L 0 0 := by
  refine j_istore E 4 [(4, .int s0), (0, .ref v0), (1, .int v1), (2, .int v2), (3, .int v3)] dX12_findByCost_40 (by decide) rfl ?_
  refine j_iconst E (v := 1) dX12_findByCost_42 (by decide) ?_
  refine j_istore E 5 [(5, .int (1 : Int32)), (4, .int s0), (0, .ref v0), (1, .int v1), (2, .int v2), (3, .int v3)] dX12_findByCost_43 (by decide) rfl ?_
  obtain ⟨n23, h⟩ := h
  refine j_sub [2, 3, 4, 5, 1, 0] rfl ?_
  exact m_X12_findByCost_L45 E hZ K7 hK7 K14 hK14 n23 v0 v1 v2 v3 s0 (1 : Int32) I L kv0 h
set_option maxRecDepth 100000 in
def f_X12_findByCost_b37 (K7 : Nat → Int32 → Int32 → jI → jL → Prop) (K14 : Nat → Int32 → Int32 → Int32 → jI → jL → Prop) (Z : jZ) (Q : jI → jL → Prop) (v0 : Nat) (v1 : Int32) (v2 : Int32) (v3 : Int32) (I : jI) (L : jL) : Prop := f_X12_findByCost_b40 K7 K14 Z Q v0 v1 v2 v3 (1000000000 : Int32) I L
set_option maxHeartbeats 4000000 in
set_option maxRecDepth 100000 in
theorem m_X12_findByCost_b37 {G : jG} {Z : jZ} {Q : jI → jL → Prop} (E : jE G cX12_findByCost RX12 w_X12_findByCost 8 none { frames := 1, cells := 0, slots := 0, locals := 23 } (rtV Z Q)) (hZ : SH Z) (K7 : Nat → Int32 → Int32 → jI → jL → Prop) (hK7 : ∀ (v0 : Nat) (v1 : Int32) (v2 : Int32) (I : jI) (L : jL), jk Z v0 12 → K7 v0 v1 v2 I L → jJ G 8 7 [(0, .ref v0), (1, .int v1), (2, .int v2)] [] Z I L 0 0) (K14 : Nat → Int32 → Int32 → Int32 → jI → jL → Prop) (hK14 : ∀ (v0 : Nat) (v1 : Int32) (v2 : Int32) (v3 : Int32) (I : jI) (L : jL), jk Z v0 12 → K14 v0 v1 v2 v3 I L → jJ G 8 14 [(0, .ref v0), (1, .int v1), (2, .int v2), (3, .int v3)] [] Z I L 0 0) (v0 : Nat) (v1 : Int32) (v2 : Int32) (v3 : Int32) (I : jI) (L : jL) (kv0 : jk Z v0 12) (h : f_X12_findByCost_b37 K7 K14 Z Q v0 v1 v2 v3 I L) : jJ G 8 37 [(0, .ref v0), (1, .int v1), (2, .int v2), (3, .int v3)] [] Z I L 0 0 := by
  refine j_ldcw E (tw W_843) dX12_findByCost_37 ?_
  refine j_sub [0, 1, 2, 3] rfl ?_
  exact m_X12_findByCost_b40 E hZ K7 hK7 K14 hK14 v0 v1 v2 v3 (1000000000 : Int32) I L kv0 h
set_option maxRecDepth 100000 in
def f_X12_findByCost_L14 (K7 : Nat → Int32 → Int32 → jI → jL → Prop) (Z : jZ) (Q : jI → jL → Prop) : Nat → Nat → Int32 → Int32 → Int32 → jI → jL → Prop
  | 0 => fun _ _ _ _ _ _ => False
  | n + 1 => fun v0 v1 v2 v3 I L => ((v1 < v3 → (∀ x25 : Int32, x25 = v2 + (-1) → K7 v0 v1 x25 I L)) ∧ (¬ (v1 < v3) → ((¬ v2 = ((I v0 0) - (1 : Int32)) → f_X12_findByCost_b37 K7 (f_X12_findByCost_L14 K7 Z Q n) Z Q v0 v1 v2 v3 I L) ∧ (v2 = ((I v0 0) - (1 : Int32)) → ((¬ v3 = 0 → f_X12_findByCost_b37 K7 (f_X12_findByCost_L14 K7 Z Q n) Z Q v0 v1 v2 v3 I L) ∧ (v3 = 0 → f_X12_findByCost_b40 K7 (f_X12_findByCost_L14 K7 Z Q n) Z Q v0 v1 v2 v3 (0 : Int32) I L))))))
set_option maxHeartbeats 4000000 in
set_option maxRecDepth 100000 in
theorem m_X12_findByCost_L14 {G : jG} {Z : jZ} {Q : jI → jL → Prop} (E : jE G cX12_findByCost RX12 w_X12_findByCost 8 none { frames := 1, cells := 0, slots := 0, locals := 23 } (rtV Z Q)) (hZ : SH Z) (K7 : Nat → Int32 → Int32 → jI → jL → Prop) (hK7 : ∀ (v0 : Nat) (v1 : Int32) (v2 : Int32) (I : jI) (L : jL), jk Z v0 12 → K7 v0 v1 v2 I L → jJ G 8 7 [(0, .ref v0), (1, .int v1), (2, .int v2)] [] Z I L 0 0) : ∀ (n : Nat) (v0 : Nat) (v1 : Int32) (v2 : Int32) (v3 : Int32) (I : jI) (L : jL), jk Z v0 12 → f_X12_findByCost_L14 K7 Z Q n v0 v1 v2 v3 I L → jJ G 8 14 [(0, .ref v0), (1, .int v1), (2, .int v2), (3, .int v3)] [] Z I L 0 0 := by
  intro n
  induction n with
  | zero => intro v0 v1 v2 v3 I L _ h; exact h.elim
  | succ n ih =>
    intro v0 v1 v2 v3 I L kv0 h
    have h : ((v1 < v3 → (∀ x25 : Int32, x25 = v2 + (-1) → K7 v0 v1 x25 I L)) ∧ (¬ (v1 < v3) → ((¬ v2 = ((I v0 0) - (1 : Int32)) → f_X12_findByCost_b37 K7 (f_X12_findByCost_L14 K7 Z Q n) Z Q v0 v1 v2 v3 I L) ∧ (v2 = ((I v0 0) - (1 : Int32)) → ((¬ v3 = 0 → f_X12_findByCost_b37 K7 (f_X12_findByCost_L14 K7 Z Q n) Z Q v0 v1 v2 v3 I L) ∧ (v3 = 0 → f_X12_findByCost_b40 K7 (f_X12_findByCost_L14 K7 Z Q n) Z Q v0 v1 v2 v3 (0 : Int32) I L)))))) := h
    obtain ⟨K14, eK14⟩ : ∃ K : Nat → Int32 → Int32 → Int32 → jI → jL → Prop, K = f_X12_findByCost_L14 K7 Z Q n := ⟨_, rfl⟩
    have hK14 := ih
    clear eK14 K14
    generalize f_X12_findByCost_L14 K7 Z Q n = K14 at hK14 h
    refine j_iload_n E dX12_findByCost_14 3 rfl ?_
    refine j_iload_n E dX12_findByCost_15 1 rfl ?_
    refine j_icmp_gt E 170 dX12_findByCost_16 (by decide) (fun c24 => ?_) (fun c24 => ?_)
    · have h := h.1 c24
      obtain ⟨x25, ex25⟩ : ∃ y : Int32, y = v2 + (-1) := ⟨_, rfl⟩
      have h := h x25 ex25
      refine j_iinc E x25 [(2, .int x25), (0, .ref v0), (1, .int v1), (3, .int v3)] dX12_findByCost_170 2 rfl (by rw [ex25]; rfl) (by decide) rfl ?_
      refine j_goto E 7 dX12_findByCost_173 (by decide) ?_
      refine j_sub [1, 2, 0] rfl ?_
      exact hK7 v0 v1 x25 I L kv0 h
    · have h := h.2 c24
      refine j_iload_n E dX12_findByCost_19 2 rfl ?_
      refine j_aload_n E dX12_findByCost_20 0 rfl ?_
      refine j_geti E 12 0 rfl rfl (by decide) (by decide) (iw iT_12) rfl rfl (tw W_693) kv0 dX12_findByCost_21 ?_
      refine j_iconst E (v := 1) dX12_findByCost_24 (by decide) ?_
      refine j_isub E dX12_findByCost_25 ?_
      refine j_icmp_ne E 37 dX12_findByCost_26 (by decide) (fun c26 => ?_) (fun c26 => ?_)
      · have h := h.1 c26
        refine j_sub [0, 1, 2, 3] rfl ?_
        exact m_X12_findByCost_b37 E hZ K7 hK7 K14 hK14 v0 v1 v2 v3 I L kv0 h
      · have h := h.2 c26
        refine j_iload_n E dX12_findByCost_29 3 rfl ?_
        refine j_if_ne E 37 dX12_findByCost_30 (by decide) (fun c27 => ?_) (fun c27 => ?_)
        · have h := h.1 c27
          refine j_sub [0, 1, 2, 3] rfl ?_
          exact m_X12_findByCost_b37 E hZ K7 hK7 K14 hK14 v0 v1 v2 v3 I L kv0 h
        · have h := h.2 c27
          refine j_iconst E (v := 0) dX12_findByCost_33 (by decide) ?_
          refine j_goto E 40 dX12_findByCost_34 (by decide) ?_
          refine j_sub [0, 1, 2, 3] rfl ?_
          exact m_X12_findByCost_b40 E hZ K7 hK7 K14 hK14 v0 v1 v2 v3 (0 : Int32) I L kv0 h
set_option maxRecDepth 100000 in
def f_X12_findByCost_L7  (Z : jZ) (Q : jI → jL → Prop) : Nat → Nat → Int32 → Int32 → jI → jL → Prop
  | 0 => fun _ _ _ _ _ => False
  | n + 1 => fun v0 v1 v2 I L => ((v2 < (-1 : Int32) → Q I L) ∧ (¬ (v2 < (-1 : Int32)) → (∃ m14 : Nat, f_X12_findByCost_L14 (f_X12_findByCost_L7 Z Q n) Z Q m14 v0 v1 v2 (0 : Int32) I L)))
set_option maxHeartbeats 4000000 in
set_option maxRecDepth 100000 in
theorem m_X12_findByCost_L7 {G : jG} {Z : jZ} {Q : jI → jL → Prop} (E : jE G cX12_findByCost RX12 w_X12_findByCost 8 none { frames := 1, cells := 0, slots := 0, locals := 23 } (rtV Z Q)) (hZ : SH Z)  : ∀ (n : Nat) (v0 : Nat) (v1 : Int32) (v2 : Int32) (I : jI) (L : jL), jk Z v0 12 → f_X12_findByCost_L7  Z Q n v0 v1 v2 I L → jJ G 8 7 [(0, .ref v0), (1, .int v1), (2, .int v2)] [] Z I L 0 0 := by
  intro n
  induction n with
  | zero => intro v0 v1 v2 I L _ h; exact h.elim
  | succ n ih =>
    intro v0 v1 v2 I L kv0 h
    have h : ((v2 < (-1 : Int32) → Q I L) ∧ (¬ (v2 < (-1 : Int32)) → (∃ m14 : Nat, f_X12_findByCost_L14 (f_X12_findByCost_L7 Z Q n) Z Q m14 v0 v1 v2 (0 : Int32) I L))) := h
    obtain ⟨K7, eK7⟩ : ∃ K : Nat → Int32 → Int32 → jI → jL → Prop, K = f_X12_findByCost_L7  Z Q n := ⟨_, rfl⟩
    have hK7 := ih
    clear eK7 K7
    generalize f_X12_findByCost_L7  Z Q n = K7 at hK7 h
    refine j_iload_n E dX12_findByCost_7 2 rfl ?_
    refine j_iconst E (v := -1) dX12_findByCost_8 (by decide) ?_
    refine j_icmp_lt E 176 dX12_findByCost_9 (by decide) (fun c28 => ?_) (fun c28 => ?_)
    · have h := h.1 c28
      exact j_return E ⟨rfl, rfl, h⟩ (Nat.zero_le _) (Nat.zero_le _) dX12_findByCost_176
    · have h := h.2 c28
      refine j_iconst E (v := 0) dX12_findByCost_12 (by decide) ?_
      refine j_istore_n E 3 [(3, .int (0 : Int32)), (0, .ref v0), (1, .int v1), (2, .int v2)] dX12_findByCost_13 rfl (by decide) rfl ?_
      obtain ⟨n29, h⟩ := h
      refine j_sub [1, 2, 3, 0] rfl ?_
      exact m_X12_findByCost_L14 E hZ K7 hK7 n29 v0 v1 v2 (0 : Int32) I L kv0 h
set_option maxRecDepth 100000 in
def f_X12_findByCost (v0 : Nat) (v1 : Int32) (Z : jZ) (I : jI) (L : jL) (Q : jI → jL → Prop) : Prop := (∀ x30 : Int32, x30 = ((I v0 0) - (1 : Int32)) → (∃ m7 : Nat, f_X12_findByCost_L7  Z Q m7 v0 v1 x30 I L))
set_option maxHeartbeats 4000000 in
set_option maxRecDepth 100000 in
theorem c_X12_findByCost (l : Launch) (D : va_G) (cy : jC) (v0 : Nat) (v1 : Int32) (Z : jZ) (I : jI) (L : jL) (Q : jI → jL → Prop) (hZ : SH Z) (kv0 : jk Z v0 12) (h : f_X12_findByCost v0 v1 Z I L Q) : jCt l yX12_findByCost w_X12_findByCost { frames := 1, cells := 0, slots := 0, locals := 23 } D cy [.ref v0, .int v1] Z I L (rtV Z Q) := by
  refine jCt_of (cc := cX12_findByCost) (maxL := 8) (ret := none) (by decide +kernel) rfl (Nat.le_of_ble_eq_true rfl) ?_
  intro G eD eY eL E
  subst eD; subst eY; subst eL
  have E : jE G cX12_findByCost RX12 w_X12_findByCost 8 none { frames := 1, cells := 0, slots := 0, locals := 23 } (rtV Z Q) := E
  show jJ G 8 0 [(0, .ref v0), (1, .int v1)] [] Z I L 0 0
  refine j_aload_n E dX12_findByCost_0 0 rfl ?_
  refine j_geti E 12 0 rfl rfl (by decide) (by decide) (iw iT_12) rfl rfl (tw W_693) kv0 dX12_findByCost_1 ?_
  refine j_iconst E (v := 1) dX12_findByCost_4 (by decide) ?_
  refine j_isub E dX12_findByCost_5 ?_
  refine j_topi (fun x30 ex30 => ?_)
  have h := h x30 ex30
  refine j_istore_n E 2 [(2, .int x30), (0, .ref v0), (1, .int v1)] dX12_findByCost_6 rfl (by decide) rfl ?_
  obtain ⟨n31, h⟩ := h
  refine j_sub [1, 2, 0] rfl ?_
  exact m_X12_findByCost_L7 E hZ  n31 v0 v1 x30 I L kv0 h
set_option maxRecDepth 100000 in
def f_X12_next_L52 (B : Nat × Nat)  (Q : Int32 → jZ → jI → jL → Prop) : Nat → Nat → Int32 → Int32 → jZ → jI → jL → Prop
  | 0 => fun _ _ _ _ _ _ => False
  | n + 1 => fun v0 v1 v3 Z I L => (∀ b1 : Nat, jr Z v0 10 = some b1 → (vp_in v1 6 ∧ (((I b1 v1.toNatClampNeg) < v3 → Q (-2 : Int32) Z I L) ∧ (¬ ((I b1 v1.toNatClampNeg) < v3) → (∀ b4 : Nat, jr Z v0 40 = some b4 → (vp_in v3 25000 ∧ (∀ b6 : Nat, jr Z v0 9 = some b6 → (vp_in v1 6 ∧ (((I b4 v3.toNatClampNeg) ≤ (I b6 v1.toNatClampNeg) → (∀ I9 : jI, I9 = jpI I v0 21 (0 : Int32) → (∀ b10 : Nat, jr Z v0 40 = some b10 → (vp_in v3 25000 ∧ (f_X12_tell v0 ((I9 b10 v3.toNatClampNeg).toInt64) Z I9 L (fun I14 L15 => Q v3 Z I14 L15)))))) ∧ (¬ ((I b4 v3.toNatClampNeg) ≤ (I b6 v1.toNatClampNeg)) → (∀ x18 : Int32, x18 = v3 + 1 → (f_X12_next_L52 B Q n) v0 v1 x18 Z I L)))))))))))
set_option maxHeartbeats 4000000 in
set_option maxRecDepth 100000 in
theorem m_X12_next_L52 {G : jG} {Z0 : jZ} {B : Nat × Nat} {Q : Int32 → jZ → jI → jL → Prop} (E : jE G cX12_next RX12 w_X12_next 4 (some .int) (jrm B 106 2564 Z0) jRF) (EU : jEU G B Z0 (urtI B Z0 Q))  : ∀ (n : Nat) (v0 : Nat) (v1 : Int32) (v3 : Int32) (Z : jZ) (I : jI) (L : jL), SH Z → jext Z0 Z → jle Z0 Z → jin B Z → jk Z v0 12 → f_X12_next_L52 B  Q n v0 v1 v3 Z I L → jJ G 4 52 [(0, .ref v0), (1, .int v1), (3, .int v3)] [] Z I L (jcz Z - jcz Z0) (jsz Z - jsz Z0) := by
  intro n
  induction n with
  | zero => intro v0 v1 v3 Z I L _ _ _ _ _ h; exact h.elim
  | succ n ih =>
    intro v0 v1 v3 Z I L hZ hx hc hb kv0 h
    have h : (∀ b1 : Nat, jr Z v0 10 = some b1 → (vp_in v1 6 ∧ (((I b1 v1.toNatClampNeg) < v3 → Q (-2 : Int32) Z I L) ∧ (¬ ((I b1 v1.toNatClampNeg) < v3) → (∀ b4 : Nat, jr Z v0 40 = some b4 → (vp_in v3 25000 ∧ (∀ b6 : Nat, jr Z v0 9 = some b6 → (vp_in v1 6 ∧ (((I b4 v3.toNatClampNeg) ≤ (I b6 v1.toNatClampNeg) → (∀ I9 : jI, I9 = jpI I v0 21 (0 : Int32) → (∀ b10 : Nat, jr Z v0 40 = some b10 → (vp_in v3 25000 ∧ (f_X12_tell v0 ((I9 b10 v3.toNatClampNeg).toInt64) Z I9 L (fun I14 L15 => Q v3 Z I14 L15)))))) ∧ (¬ ((I b4 v3.toNatClampNeg) ≤ (I b6 v1.toNatClampNeg)) → (∀ x18 : Int32, x18 = v3 + 1 → (f_X12_next_L52 B Q n) v0 v1 x18 Z I L))))))))))) := h
    obtain ⟨K52, eK52⟩ : ∃ K : Nat → Int32 → Int32 → jZ → jI → jL → Prop, K = f_X12_next_L52 B  Q n := ⟨_, rfl⟩
    have hK52 := ih
    clear eK52 K52
    generalize f_X12_next_L52 B  Q n = K52 at hK52 h
    refine j_iload_n E dX12_next_52 2 rfl ?_
    refine j_aload_n E dX12_next_53 0 rfl ?_
    obtain ⟨b1, eb1, kb1, lb1⟩ := sh_f hZ kv0 (j := 10) (k := 14) (m := 6) rfl
    have h := h b1 eb1
    refine j_getr E 12 10 rfl rfl (by decide) (by decide) (iw iT_12) rfl rfl (tw W_736) kv0 eb1 dX12_next_54 ?_
    refine j_iload_n E dX12_next_57 1 rfl ?_
    obtain ⟨o2, h⟩ := h
    refine j_iald E kb1 (by rw [lb1]; exact o2) dX12_next_58 ?_
    refine j_icmp_gt E 104 dX12_next_59 (by decide) (fun c3 => ?_) (fun c3 => ?_)
    · have h := h.1 c3
      refine j_bipush E (v := -2) dX12_next_104 (by decide) ?_
      exact ju_ireturn E EU hc hb ⟨hx, hZ, hb, _, rfl, h⟩ dX12_next_106
    · have h := h.2 c3
      refine j_aload_n E dX12_next_62 0 rfl ?_
      obtain ⟨b4, eb4, kb4, lb4⟩ := sh_f hZ kv0 (j := 40) (k := 14) (m := 25000) rfl
      have h := h b4 eb4
      refine j_getr E 12 40 rfl rfl (by decide) (by decide) (iw iT_12) rfl rfl (tw W_846) kv0 eb4 dX12_next_63 ?_
      refine j_iload_n E dX12_next_66 2 rfl ?_
      obtain ⟨o5, h⟩ := h
      refine j_iald E kb4 (by rw [lb4]; exact o5) dX12_next_67 ?_
      refine j_aload_n E dX12_next_68 0 rfl ?_
      obtain ⟨b6, eb6, kb6, lb6⟩ := sh_f hZ kv0 (j := 9) (k := 14) (m := 6) rfl
      have h := h b6 eb6
      refine j_getr E 12 9 rfl rfl (by decide) (by decide) (iw iT_12) rfl rfl (tw W_734) kv0 eb6 dX12_next_69 ?_
      refine j_iload_n E dX12_next_72 1 rfl ?_
      obtain ⟨o7, h⟩ := h
      refine j_iald E kb6 (by rw [lb6]; exact o7) dX12_next_73 ?_
      refine j_icmp_le E 80 dX12_next_74 (by decide) (fun c8 => ?_) (fun c8 => ?_)
      · have h := h.1 c8
        refine j_aload_n E dX12_next_80 0 rfl ?_
        refine j_iconst E (v := 0) dX12_next_81 (by decide) ?_
        refine j_puti E 12 21 rfl rfl (by decide) (by decide) (iw iT_12) tyX12_ok nmX12 rfl rfl (tw W_692) rfl rfl rfl kv0 dX12_next_82 ?_
        refine j_nmI (fun I9 eI9 => ?_)
        have h := h I9 eI9
        refine j_aload_n E dX12_next_85 0 rfl ?_
        refine j_aload_n E dX12_next_86 0 rfl ?_
        obtain ⟨b10, eb10, kb10, lb10⟩ := sh_f hZ kv0 (j := 40) (k := 14) (m := 25000) rfl
        have h := h b10 eb10
        refine j_getr E 12 40 rfl rfl (by decide) (by decide) (iw iT_12) rfl rfl (tw W_846) kv0 eb10 dX12_next_87 ?_
        refine j_iload_n E dX12_next_90 2 rfl ?_
        obtain ⟨o11, h⟩ := h
        refine j_iald E kb10 (by rw [lb10]; exact o11) dX12_next_91 ?_
        refine j_i2l E dX12_next_92 ?_
        refine j_callV E [.long ((I9 b10 v3.toNatClampNeg).toInt64)] [] (c_X12_tell (gL G) (gD G) (gY G) v0 ((I9 b10 v3.toNatClampNeg).toInt64) Z I9 L _ hZ kv0 h) (gwV W_820 W_821 W_822 W_695 W_819) rfl ⟨rfl, fy_X12_tell⟩ ⟨Nat.le_of_ble_eq_true rfl, Nat.le_of_ble_eq_true rfl⟩ (c := 12) rfl (by decide) kv0 rfl rfl (Nat.le_of_ble_eq_true rfl) (ju_kn hb) dX12_next_93 (fun v12 Z13 I14 L15 q16 => ?_)
        obtain ⟨rfl, rfl, h⟩ := q16
        show jJ G 4 96 [(0, .ref v0), (1, .int v1), (3, .int v3)] [] Z I14 L15 (jcz Z - jcz Z0) (jsz Z - jsz Z0)
        refine j_iload_n E dX12_next_96 2 rfl ?_
        exact ju_ireturn E EU hc hb ⟨hx, hZ, hb, _, rfl, h⟩ dX12_next_97
      · have h := h.2 c8
        refine j_goto E 98 dX12_next_77 (by decide) ?_
        obtain ⟨x18, ex18⟩ : ∃ y : Int32, y = v3 + 1 := ⟨_, rfl⟩
        have h := h x18 ex18
        refine j_iinc E x18 [(3, .int x18), (0, .ref v0), (1, .int v1)] dX12_next_98 2 rfl (by rw [ex18]; rfl) (by decide) rfl ?_
        refine j_goto E 52 dX12_next_101 (by decide) ?_
        refine j_sub [1, 2, 0] rfl ?_
        exact hK52 v0 v1 x18 Z I L hZ hx hc hb kv0 h
set_option maxRecDepth 100000 in
def f_X12_next (B : Nat × Nat) (v0 : Nat) (v1 : Int32) (v2 : Int32) (Z : jZ) (I : jI) (L : jL) (Q : Int32 → jZ → jI → jL → Prop) : Prop := (∀ I19 : jI, I19 = jpI I v0 22 (0 : Int32) → (f_X12_isOne v0 v1 Z I19 L (fun r26 I22 L23 => ((r26 = 0 → Q (-1 : Int32) Z I22 L23) ∧ (¬ (r26 = 0) → (((I22 v0 0) = 0 → Q (-1 : Int32) Z I22 L23) ∧ (¬ ((I22 v0 0) = 0) → (f_X12_in v2 (-1 : Int32) (998 : Int32) Z I22 L23 (fun r35 I31 L32 => ((¬ r35 = 0 → (f_X12_layMoves B v0 v1 Z I31 L32 (fun Z38 I39 L40 => (∀ b44 : Nat, jr Z38 v0 10 = some b44 → (vp_in v1 6 ∧ (f_X12_findByCost v0 (I39 b44 v1.toNatClampNeg) Z38 I39 L40 (fun I48 L49 => (∀ x52 : Int32, x52 = (v2 + (1 : Int32)) → (∃ m52 : Nat, f_X12_next_L52 B  Q m52 v0 v1 x52 Z38 I48 L49))))))))) ∧ (r35 = 0 → Q (-1 : Int32) Z I31 L32)))))))))))
set_option maxHeartbeats 4000000 in
set_option maxRecDepth 100000 in
theorem c_X12_next (l : Launch) (D : va_G) (cy : jC) (B : Nat × Nat) (v0 : Nat) (v1 : Int32) (v2 : Int32) (Z : jZ) (I : jI) (L : jL) (Q : Int32 → jZ → jI → jL → Prop) (hZ : SH Z) (hb : jin B Z) (kv0 : jk Z v0 12) (h : f_X12_next B v0 v1 v2 Z I L Q) : jCtU l yX12_next w_X12_next B 106 2564 D cy [.ref v0, .int v1, .int v2] Z I L (urtI B Z Q) := by
  refine jCtU_of (cc := cX12_next) (maxL := 4) (ret := (some .int)) (by decide +kernel) rfl (Nat.le_of_ble_eq_true rfl) ?_
  intro G eD eY eL E EU
  subst eD; subst eY; subst eL
  have E : jE G cX12_next RX12 w_X12_next 4 (some .int) (jrm B 106 2564 Z) jRF := E
  have hx : jext Z Z := jext_rfl
  have hc : jle Z Z := jle_rfl
  show jJ G 4 0 [(0, .ref v0), (1, .int v1), (2, .int v2)] [] Z I L (jcz Z - jcz Z) (jsz Z - jsz Z)
  refine j_aload_n E dX12_next_0 0 rfl ?_
  refine j_iconst E (v := 0) dX12_next_1 (by decide) ?_
  refine j_puti E 12 22 rfl rfl (by decide) (by decide) (iw iT_12) tyX12_ok nmX12 rfl rfl (tw W_690) rfl rfl rfl kv0 dX12_next_2 ?_
  refine j_nmI (fun I19 eI19 => ?_)
  have h := h I19 eI19
  refine j_aload_n E dX12_next_5 0 rfl ?_
  refine j_iload_n E dX12_next_6 1 rfl ?_
  refine j_callV E [.int v1] [] (c_X12_isOne (gL G) (gD G) (gY G) v0 v1 Z I19 L _ hZ kv0 h) (gwV W_804 W_805 W_806 W_695 W_803) rfl ⟨rfl, fy_X12_isOne⟩ ⟨Nat.le_of_ble_eq_true rfl, Nat.le_of_ble_eq_true rfl⟩ (c := 12) rfl (by decide) kv0 rfl rfl (Nat.le_of_ble_eq_true rfl) (ju_kn hb) dX12_next_7 (fun v20 Z21 I22 L23 q24 => ?_)
  obtain ⟨rfl, r26, rfl, zr26, h⟩ := q24
  show jJ G 4 10 [(0, .ref v0), (1, .int v1), (2, .int v2)] [.int r26] Z I22 L23 (jcz Z - jcz Z) (jsz Z - jsz Z)
  refine j_if_eq E 31 dX12_next_10 (by decide) (fun c27 => ?_) (fun c27 => ?_)
  · have h := h.1 c27
    refine j_iconst E (v := -1) dX12_next_31 (by decide) ?_
    exact ju_ireturn E EU hc hb ⟨hx, hZ, hb, _, rfl, h⟩ dX12_next_32
  · have h := h.2 c27
    refine j_aload_n E dX12_next_13 0 rfl ?_
    refine j_geti E 12 0 rfl rfl (by decide) (by decide) (iw iT_12) rfl rfl (tw W_693) kv0 dX12_next_14 ?_
    refine j_if_eq E 31 dX12_next_17 (by decide) (fun c28 => ?_) (fun c28 => ?_)
    · have h := h.1 c28
      refine j_iconst E (v := -1) dX12_next_31 (by decide) ?_
      exact ju_ireturn E EU hc hb ⟨hx, hZ, hb, _, rfl, h⟩ dX12_next_32
    · have h := h.2 c28
      refine j_iload_n E dX12_next_20 2 rfl ?_
      refine j_iconst E (v := -1) dX12_next_21 (by decide) ?_
      refine j_sipush E (v := 998) dX12_next_22 (by decide) ?_
      refine j_callS E [.int v2, .int (-1 : Int32), .int (998 : Int32)] [] (c_X12_in (gL G) (gD G) (gY G) v2 (-1 : Int32) (998 : Int32) Z I22 L23 _ hZ  h) (gwS W_696 W_697 W_695 W_694) rfl fy_X12_in ⟨Nat.le_of_ble_eq_true rfl, Nat.le_of_ble_eq_true rfl⟩ rfl rfl (Nat.le_of_ble_eq_true rfl) (ju_kn hb) dX12_next_25 (fun v29 Z30 I31 L32 q33 => ?_)
      obtain ⟨rfl, r35, rfl, zr35, h⟩ := q33
      show jJ G 4 28 [(0, .ref v0), (1, .int v1), (2, .int v2)] [.int r35] Z I31 L32 (jcz Z - jcz Z) (jsz Z - jsz Z)
      refine j_if_ne E 33 dX12_next_28 (by decide) (fun c36 => ?_) (fun c36 => ?_)
      · have h := h.1 c36
        refine j_aload_n E dX12_next_33 0 rfl ?_
        refine j_iload_n E dX12_next_34 1 rfl ?_
        refine ju_callV E [.int v1] [] (c_X12_layMoves (gL G) (gD G) (gY G) B v0 v1 Z I31 L32 _ hZ hb kv0 h) (gwV W_856 W_857 W_858 W_695 W_855) rfl ⟨rfl, fy_X12_layMoves⟩ ⟨Nat.le_of_ble_eq_true rfl, Nat.le_of_ble_eq_true rfl⟩ (c := 12) rfl (by decide) kv0 rfl rfl (Nat.le_of_ble_eq_true rfl) (ju_f hc hb) dX12_next_35 (fun v37 Z38 I39 L40 q41 j42 => ?_)
        refine ju_next hc j42 ?_
        have hc := jle_trans hc j42
        obtain ⟨yZ38, hZ38, hbZ38, rfl, h⟩ := q41
        have hZ := hZ38
        have hx : jext Z Z38 := jext_trans hx yZ38
        have hb := hbZ38
        have k43 := (yZ38 _ _ kv0).1
        show jJ G 4 38 [(0, .ref v0), (1, .int v1), (2, .int v2)] [] Z38 I39 L40 (jcz Z38 - jcz Z) (jsz Z38 - jsz Z)
        refine j_aload_n E dX12_next_38 0 rfl ?_
        refine j_aload_n E dX12_next_39 0 rfl ?_
        obtain ⟨b44, eb44, kb44, lb44⟩ := sh_f hZ k43 (j := 10) (k := 14) (m := 6) rfl
        have h := h b44 eb44
        refine j_getr E 12 10 rfl rfl (by decide) (by decide) (iw iT_12) rfl rfl (tw W_736) k43 eb44 dX12_next_40 ?_
        refine j_iload_n E dX12_next_43 1 rfl ?_
        obtain ⟨o45, h⟩ := h
        refine j_iald E kb44 (by rw [lb44]; exact o45) dX12_next_44 ?_
        refine j_callV E [.int (I39 b44 v1.toNatClampNeg)] [] (c_X12_findByCost (gL G) (gD G) (gY G) v0 (I39 b44 v1.toNatClampNeg) Z38 I39 L40 _ hZ k43 h) (gwV W_886 W_887 W_888 W_695 W_885) rfl ⟨rfl, fy_X12_findByCost⟩ ⟨Nat.le_of_ble_eq_true rfl, Nat.le_of_ble_eq_true rfl⟩ (c := 12) rfl (by decide) k43 rfl rfl (Nat.le_of_ble_eq_true rfl) (ju_kn hb) dX12_next_45 (fun v46 Z47 I48 L49 q50 => ?_)
        obtain ⟨rfl, rfl, h⟩ := q50
        show jJ G 4 48 [(0, .ref v0), (1, .int v1), (2, .int v2)] [] Z38 I48 L49 (jcz Z38 - jcz Z) (jsz Z38 - jsz Z)
        refine j_iload_n E dX12_next_48 2 rfl ?_
        refine j_iconst E (v := 1) dX12_next_49 (by decide) ?_
        refine j_iadd E dX12_next_50 ?_
        refine j_topi (fun x52 ex52 => ?_)
        have h := h x52 ex52
        refine j_istore_n E 3 [(3, .int x52), (0, .ref v0), (1, .int v1), (2, .int v2)] dX12_next_51 rfl (by decide) rfl ?_
        obtain ⟨n53, h⟩ := h
        refine j_sub [1, 2, 0] rfl ?_
        exact m_X12_next_L52 E EU  n53 v0 v1 x52 Z38 I48 L49 hZ hx hc hb k43 h
      · have h := h.2 c36
        refine j_iconst E (v := -1) dX12_next_31 (by decide) ?_
        exact ju_ireturn E EU hc hb ⟨hx, hZ, hb, _, rfl, h⟩ dX12_next_32
set_option maxRecDepth 100000 in
def f_X12_bears_b70 (B : Nat × Nat)  (Q : Int32 → jZ → jI → jL → Prop) (v0 : Nat) (v1 : Int32) (v2 : Int32) (v3 : Int32) (Z : jZ) (I : jI) (L : jL) : Prop := (∀ b1 : Nat, jr Z v0 12 = some b1 → (vp_in v1 6 ∧ (∀ I3 : jI, I3 = jpI I b1 v1.toNatClampNeg v2 → ((0 ≤ v3 → (∀ I5 : jI, I5 = jpI I3 v0 21 (0 : Int32) → (f_X12_tell v0 ((I5 v0 41).toInt64) Z I5 L (fun I8 L9 => Q v3 Z I8 L9)))) ∧ (¬ (0 ≤ v3) → Q (-2 : Int32) Z I3 L)))))
set_option maxHeartbeats 4000000 in
set_option maxRecDepth 100000 in
theorem m_X12_bears_b70 {G : jG} {B : Nat × Nat} {Z0 : jZ} {Q : Int32 → jZ → jI → jL → Prop} (E : jE G cX12_bears RX12 w_X12_bears 5 (some .int) (jrm B 107 2589 Z0) jRF) (EU : jEU G B Z0 (urtI B Z0 Q))  (v0 : Nat) (v1 : Int32) (v2 : Int32) (v3 : Int32) (Z : jZ) (I : jI) (L : jL) (hZ : SH Z) (hx : jext Z0 Z) (hc : jle Z0 Z) (hb : jin B Z) (kv0 : jk Z v0 12) (h : f_X12_bears_b70 B  Q v0 v1 v2 v3 Z I L) : jJ G 5 70 [(0, .ref v0), (1, .int v1), (2, .int v2), (3, .int v3)] [] Z I L (jcz Z - jcz Z0) (jsz Z - jsz Z0) := by
  refine j_aload_n E dX12_bears_70 0 rfl ?_
  obtain ⟨b1, eb1, kb1, lb1⟩ := sh_f hZ kv0 (j := 12) (k := 14) (m := 6) rfl
  have h := h b1 eb1
  refine j_getr E 12 12 rfl rfl (by decide) (by decide) (iw iT_12) rfl rfl (tw W_801) kv0 eb1 dX12_bears_71 ?_
  refine j_iload_n E dX12_bears_74 1 rfl ?_
  refine j_iload_n E dX12_bears_75 2 rfl ?_
  obtain ⟨o2, h⟩ := h
  refine j_iast E kb1 (by rw [lb1]; exact o2) dX12_bears_76 ?_
  refine j_nmI (fun I3 eI3 => ?_)
  have h := h I3 eI3
  refine j_iload_n E dX12_bears_77 3 rfl ?_
  refine j_if_ge E 84 dX12_bears_78 (by decide) (fun c4 => ?_) (fun c4 => ?_)
  · have h := h.1 c4
    refine j_aload_n E dX12_bears_84 0 rfl ?_
    refine j_iconst E (v := 0) dX12_bears_85 (by decide) ?_
    refine j_puti E 12 21 rfl rfl (by decide) (by decide) (iw iT_12) tyX12_ok nmX12 rfl rfl (tw W_692) rfl rfl rfl kv0 dX12_bears_86 ?_
    refine j_nmI (fun I5 eI5 => ?_)
    have h := h I5 eI5
    refine j_aload_n E dX12_bears_89 0 rfl ?_
    refine j_aload_n E dX12_bears_90 0 rfl ?_
    refine j_geti E 12 41 rfl rfl (by decide) (by decide) (iw iT_12) rfl rfl (tw W_853) kv0 dX12_bears_91 ?_
    refine j_i2l E dX12_bears_94 ?_
    refine j_callV E [.long ((I5 v0 41).toInt64)] [] (c_X12_tell (gL G) (gD G) (gY G) v0 ((I5 v0 41).toInt64) Z I5 L _ hZ kv0 h) (gwV W_820 W_821 W_822 W_695 W_819) rfl ⟨rfl, fy_X12_tell⟩ ⟨Nat.le_of_ble_eq_true rfl, Nat.le_of_ble_eq_true rfl⟩ (c := 12) rfl (by decide) kv0 rfl rfl (Nat.le_of_ble_eq_true rfl) (ju_kn hb) dX12_bears_95 (fun v6 Z7 I8 L9 q10 => ?_)
    obtain ⟨rfl, rfl, h⟩ := q10
    show jJ G 5 98 [(0, .ref v0), (1, .int v1), (2, .int v2), (3, .int v3)] [] Z I8 L9 (jcz Z - jcz Z0) (jsz Z - jsz Z0)
    refine j_iload_n E dX12_bears_98 3 rfl ?_
    exact ju_ireturn E EU hc hb ⟨hx, hZ, hb, _, rfl, h⟩ dX12_bears_99
  · have h := h.2 c4
    refine j_bipush E (v := -2) dX12_bears_81 (by decide) ?_
    exact ju_ireturn E EU hc hb ⟨hx, hZ, hb, _, rfl, h⟩ dX12_bears_83
set_option maxRecDepth 100000 in
def f_X12_bears_b64 (B : Nat × Nat) (K36 : Nat → Int32 → Int32 → Int32 → Int32 → jZ → jI → jL → Prop) (Q : Int32 → jZ → jI → jL → Prop) (v0 : Nat) (v1 : Int32) (v2 : Int32) (v3 : Int32) (v4 : Int32) (Z : jZ) (I : jI) (L : jL) : Prop := (∀ x12 : Int32, x12 = v4 + (-1) → K36 v0 v1 v2 v3 x12 Z I L)
set_option maxHeartbeats 4000000 in
set_option maxRecDepth 100000 in
theorem m_X12_bears_b64 {G : jG} {B : Nat × Nat} {Z0 : jZ} {Q : Int32 → jZ → jI → jL → Prop} (E : jE G cX12_bears RX12 w_X12_bears 5 (some .int) (jrm B 107 2589 Z0) jRF) (EU : jEU G B Z0 (urtI B Z0 Q)) (K36 : Nat → Int32 → Int32 → Int32 → Int32 → jZ → jI → jL → Prop) (hK36 : ∀ (v0 : Nat) (v1 : Int32) (v2 : Int32) (v3 : Int32) (v4 : Int32) (Z : jZ) (I : jI) (L : jL), SH Z → jext Z0 Z → jle Z0 Z → jin B Z → jk Z v0 12 → K36 v0 v1 v2 v3 v4 Z I L → jJ G 5 36 [(0, .ref v0), (1, .int v1), (2, .int v2), (3, .int v3), (4, .int v4)] [] Z I L (jcz Z - jcz Z0) (jsz Z - jsz Z0)) (v0 : Nat) (v1 : Int32) (v2 : Int32) (v3 : Int32) (v4 : Int32) (Z : jZ) (I : jI) (L : jL) (hZ : SH Z) (hx : jext Z0 Z) (hc : jle Z0 Z) (hb : jin B Z) (kv0 : jk Z v0 12) (h : f_X12_bears_b64 B K36 Q v0 v1 v2 v3 v4 Z I L) : jJ G 5 64 [(0, .ref v0), (1, .int v1), (2, .int v2), (3, .int v3), (4, .int v4)] [] Z I L (jcz Z - jcz Z0) (jsz Z - jsz Z0) := by
  obtain ⟨x12, ex12⟩ : ∃ y : Int32, y = v4 + (-1) := ⟨_, rfl⟩
  have h := h x12 ex12
  refine j_iinc E x12 [(4, .int x12), (0, .ref v0), (1, .int v1), (2, .int v2), (3, .int v3)] dX12_bears_64 4 rfl (by rw [ex12]; rfl) (by decide) rfl ?_
  refine j_goto E 36 dX12_bears_67 (by decide) ?_
  refine j_sub [1, 2, 3, 4, 0] rfl ?_
  exact hK36 v0 v1 v2 v3 x12 Z I L hZ hx hc hb kv0 h
set_option maxRecDepth 100000 in
def f_X12_bears_L36 (B : Nat × Nat)  (Q : Int32 → jZ → jI → jL → Prop) : Nat → Nat → Int32 → Int32 → Int32 → Int32 → jZ → jI → jL → Prop
  | 0 => fun _ _ _ _ _ _ _ _ => False
  | n + 1 => fun v0 v1 v2 v3 v4 Z I L => ((v4 < 0 → f_X12_bears_b70 B  Q v0 v1 v2 v3 Z I L) ∧ (¬ (v4 < 0) → ((0 ≤ v3 → f_X12_bears_b70 B  Q v0 v1 v2 v3 Z I L) ∧ (¬ (0 ≤ v3) → (∀ b15 : Nat, jr Z v0 12 = some b15 → (vp_in v1 6 ∧ (∀ I17 : jI, I17 = jpI I b15 v1.toNatClampNeg v4 → (f_X12_findClimb B v0 v1 Z I17 L (fun r24 Z19 I20 L21 => ((r24 = 0 → f_X12_bears_b64 B (f_X12_bears_L36 B Q n) Q v0 v1 v2 v3 v4 Z19 I20 L21) ∧ (¬ (r24 = 0) → f_X12_bears_b64 B (f_X12_bears_L36 B Q n) Q v0 v1 v2 v4 v4 Z19 I20 L21)))))))))))
set_option maxHeartbeats 4000000 in
set_option maxRecDepth 100000 in
theorem m_X12_bears_L36 {G : jG} {Z0 : jZ} {B : Nat × Nat} {Q : Int32 → jZ → jI → jL → Prop} (E : jE G cX12_bears RX12 w_X12_bears 5 (some .int) (jrm B 107 2589 Z0) jRF) (EU : jEU G B Z0 (urtI B Z0 Q))  : ∀ (n : Nat) (v0 : Nat) (v1 : Int32) (v2 : Int32) (v3 : Int32) (v4 : Int32) (Z : jZ) (I : jI) (L : jL), SH Z → jext Z0 Z → jle Z0 Z → jin B Z → jk Z v0 12 → f_X12_bears_L36 B  Q n v0 v1 v2 v3 v4 Z I L → jJ G 5 36 [(0, .ref v0), (1, .int v1), (2, .int v2), (3, .int v3), (4, .int v4)] [] Z I L (jcz Z - jcz Z0) (jsz Z - jsz Z0) := by
  intro n
  induction n with
  | zero => intro v0 v1 v2 v3 v4 Z I L _ _ _ _ _ h; exact h.elim
  | succ n ih =>
    intro v0 v1 v2 v3 v4 Z I L hZ hx hc hb kv0 h
    have h : ((v4 < 0 → f_X12_bears_b70 B  Q v0 v1 v2 v3 Z I L) ∧ (¬ (v4 < 0) → ((0 ≤ v3 → f_X12_bears_b70 B  Q v0 v1 v2 v3 Z I L) ∧ (¬ (0 ≤ v3) → (∀ b15 : Nat, jr Z v0 12 = some b15 → (vp_in v1 6 ∧ (∀ I17 : jI, I17 = jpI I b15 v1.toNatClampNeg v4 → (f_X12_findClimb B v0 v1 Z I17 L (fun r24 Z19 I20 L21 => ((r24 = 0 → f_X12_bears_b64 B (f_X12_bears_L36 B Q n) Q v0 v1 v2 v3 v4 Z19 I20 L21) ∧ (¬ (r24 = 0) → f_X12_bears_b64 B (f_X12_bears_L36 B Q n) Q v0 v1 v2 v4 v4 Z19 I20 L21))))))))))) := h
    obtain ⟨K36, eK36⟩ : ∃ K : Nat → Int32 → Int32 → Int32 → Int32 → jZ → jI → jL → Prop, K = f_X12_bears_L36 B  Q n := ⟨_, rfl⟩
    have hK36 := ih
    clear eK36 K36
    generalize f_X12_bears_L36 B  Q n = K36 at hK36 h
    refine j_iload E dX12_bears_36 4 rfl ?_
    refine j_if_lt E 70 dX12_bears_38 (by decide) (fun c13 => ?_) (fun c13 => ?_)
    · have h := h.1 c13
      refine j_sub [0, 1, 2, 3] rfl ?_
      exact m_X12_bears_b70 E EU  v0 v1 v2 v3 Z I L hZ hx hc hb kv0 h
    · have h := h.2 c13
      refine j_iload_n E dX12_bears_41 3 rfl ?_
      refine j_if_ge E 70 dX12_bears_42 (by decide) (fun c14 => ?_) (fun c14 => ?_)
      · have h := h.1 c14
        refine j_sub [0, 1, 2, 3] rfl ?_
        exact m_X12_bears_b70 E EU  v0 v1 v2 v3 Z I L hZ hx hc hb kv0 h
      · have h := h.2 c14
        refine j_aload_n E dX12_bears_45 0 rfl ?_
        obtain ⟨b15, eb15, kb15, lb15⟩ := sh_f hZ kv0 (j := 12) (k := 14) (m := 6) rfl
        have h := h b15 eb15
        refine j_getr E 12 12 rfl rfl (by decide) (by decide) (iw iT_12) rfl rfl (tw W_801) kv0 eb15 dX12_bears_46 ?_
        refine j_iload_n E dX12_bears_49 1 rfl ?_
        refine j_iload E dX12_bears_50 4 rfl ?_
        obtain ⟨o16, h⟩ := h
        refine j_iast E kb15 (by rw [lb15]; exact o16) dX12_bears_52 ?_
        refine j_nmI (fun I17 eI17 => ?_)
        have h := h I17 eI17
        refine j_aload_n E dX12_bears_53 0 rfl ?_
        refine j_iload_n E dX12_bears_54 1 rfl ?_
        refine ju_callV E [.int v1] [] (c_X12_findClimb (gL G) (gD G) (gY G) B v0 v1 Z I17 L _ hZ hb kv0 h) (gwV W_864 W_865 W_866 W_695 W_863) rfl ⟨rfl, fy_X12_findClimb⟩ ⟨Nat.le_of_ble_eq_true rfl, Nat.le_of_ble_eq_true rfl⟩ (c := 12) rfl (by decide) kv0 rfl rfl (Nat.le_of_ble_eq_true rfl) (ju_f hc hb) dX12_bears_55 (fun v18 Z19 I20 L21 q22 j23 => ?_)
        refine ju_next hc j23 ?_
        have hc := jle_trans hc j23
        obtain ⟨yZ19, hZ19, hbZ19, r24, rfl, zr24, h⟩ := q22
        have hZ := hZ19
        have hx : jext Z0 Z19 := jext_trans hx yZ19
        have hb := hbZ19
        have k25 := (yZ19 _ _ kv0).1
        show jJ G 5 58 [(0, .ref v0), (1, .int v1), (2, .int v2), (3, .int v3), (4, .int v4)] [.int r24] Z19 I20 L21 (jcz Z19 - jcz Z0) (jsz Z19 - jsz Z0)
        refine j_if_eq E 64 dX12_bears_58 (by decide) (fun c26 => ?_) (fun c26 => ?_)
        · have h := h.1 c26
          refine j_sub [0, 1, 2, 3, 4] rfl ?_
          exact m_X12_bears_b64 E EU K36 hK36 v0 v1 v2 v3 v4 Z19 I20 L21 hZ hx hc hb k25 h
        · have h := h.2 c26
          refine j_iload E dX12_bears_61 4 rfl ?_
          refine j_istore_n E 3 [(3, .int v4), (0, .ref v0), (1, .int v1), (2, .int v2), (4, .int v4)] dX12_bears_63 rfl (by decide) rfl ?_
          refine j_sub [1, 2, 3, 0, 4] rfl ?_
          exact m_X12_bears_b64 E EU K36 hK36 v0 v1 v2 v4 v4 Z19 I20 L21 hZ hx hc hb k25 h
set_option maxRecDepth 100000 in
def f_X12_bears (B : Nat × Nat) (v0 : Nat) (v1 : Int32) (Z : jZ) (I : jI) (L : jL) (Q : Int32 → jZ → jI → jL → Prop) : Prop := (∀ I27 : jI, I27 = jpI I v0 22 (0 : Int32) → (f_X12_isOne v0 v1 Z I27 L (fun r34 I30 L31 => ((r34 = 0 → Q (-1 : Int32) Z I30 L31) ∧ (¬ (r34 = 0) → ((¬ (I30 v0 0) = 0 → (∀ b37 : Nat, jr Z v0 12 = some b37 → (vp_in v1 6 ∧ (∀ x39 : Int32, x39 = (I30 b37 v1.toNatClampNeg) → (∃ m36 : Nat, f_X12_bears_L36 B  Q m36 v0 v1 x39 (-2 : Int32) (50 : Int32) Z I30 L31))))) ∧ ((I30 v0 0) = 0 → Q (-1 : Int32) Z I30 L31)))))))
set_option maxHeartbeats 4000000 in
set_option maxRecDepth 100000 in
theorem c_X12_bears (l : Launch) (D : va_G) (cy : jC) (B : Nat × Nat) (v0 : Nat) (v1 : Int32) (Z : jZ) (I : jI) (L : jL) (Q : Int32 → jZ → jI → jL → Prop) (hZ : SH Z) (hb : jin B Z) (kv0 : jk Z v0 12) (h : f_X12_bears B v0 v1 Z I L Q) : jCtU l yX12_bears w_X12_bears B 107 2589 D cy [.ref v0, .int v1] Z I L (urtI B Z Q) := by
  refine jCtU_of (cc := cX12_bears) (maxL := 5) (ret := (some .int)) (by decide +kernel) rfl (Nat.le_of_ble_eq_true rfl) ?_
  intro G eD eY eL E EU
  subst eD; subst eY; subst eL
  have E : jE G cX12_bears RX12 w_X12_bears 5 (some .int) (jrm B 107 2589 Z) jRF := E
  have hx : jext Z Z := jext_rfl
  have hc : jle Z Z := jle_rfl
  show jJ G 5 0 [(0, .ref v0), (1, .int v1)] [] Z I L (jcz Z - jcz Z) (jsz Z - jsz Z)
  refine j_aload_n E dX12_bears_0 0 rfl ?_
  refine j_iconst E (v := 0) dX12_bears_1 (by decide) ?_
  refine j_puti E 12 22 rfl rfl (by decide) (by decide) (iw iT_12) tyX12_ok nmX12 rfl rfl (tw W_690) rfl rfl rfl kv0 dX12_bears_2 ?_
  refine j_nmI (fun I27 eI27 => ?_)
  have h := h I27 eI27
  refine j_aload_n E dX12_bears_5 0 rfl ?_
  refine j_iload_n E dX12_bears_6 1 rfl ?_
  refine j_callV E [.int v1] [] (c_X12_isOne (gL G) (gD G) (gY G) v0 v1 Z I27 L _ hZ kv0 h) (gwV W_804 W_805 W_806 W_695 W_803) rfl ⟨rfl, fy_X12_isOne⟩ ⟨Nat.le_of_ble_eq_true rfl, Nat.le_of_ble_eq_true rfl⟩ (c := 12) rfl (by decide) kv0 rfl rfl (Nat.le_of_ble_eq_true rfl) (ju_kn hb) dX12_bears_7 (fun v28 Z29 I30 L31 q32 => ?_)
  obtain ⟨rfl, r34, rfl, zr34, h⟩ := q32
  show jJ G 5 10 [(0, .ref v0), (1, .int v1)] [.int r34] Z I30 L31 (jcz Z - jcz Z) (jsz Z - jsz Z)
  refine j_if_eq E 20 dX12_bears_10 (by decide) (fun c35 => ?_) (fun c35 => ?_)
  · have h := h.1 c35
    refine j_iconst E (v := -1) dX12_bears_20 (by decide) ?_
    exact ju_ireturn E EU hc hb ⟨hx, hZ, hb, _, rfl, h⟩ dX12_bears_21
  · have h := h.2 c35
    refine j_aload_n E dX12_bears_13 0 rfl ?_
    refine j_geti E 12 0 rfl rfl (by decide) (by decide) (iw iT_12) rfl rfl (tw W_693) kv0 dX12_bears_14 ?_
    refine j_if_ne E 22 dX12_bears_17 (by decide) (fun c36 => ?_) (fun c36 => ?_)
    · have h := h.1 c36
      refine j_aload_n E dX12_bears_22 0 rfl ?_
      obtain ⟨b37, eb37, kb37, lb37⟩ := sh_f hZ kv0 (j := 12) (k := 14) (m := 6) rfl
      have h := h b37 eb37
      refine j_getr E 12 12 rfl rfl (by decide) (by decide) (iw iT_12) rfl rfl (tw W_801) kv0 eb37 dX12_bears_23 ?_
      refine j_iload_n E dX12_bears_26 1 rfl ?_
      obtain ⟨o38, h⟩ := h
      refine j_iald E kb37 (by rw [lb37]; exact o38) dX12_bears_27 ?_
      refine j_topi (fun x39 ex39 => ?_)
      have h := h x39 ex39
      refine j_istore_n E 2 [(2, .int x39), (0, .ref v0), (1, .int v1)] dX12_bears_28 rfl (by decide) rfl ?_
      refine j_bipush E (v := -2) dX12_bears_29 (by decide) ?_
      refine j_istore_n E 3 [(3, .int (-2 : Int32)), (2, .int x39), (0, .ref v0), (1, .int v1)] dX12_bears_31 rfl (by decide) rfl ?_
      refine j_bipush E (v := 50) dX12_bears_32 (by decide) ?_
      refine j_istore E 4 [(4, .int (50 : Int32)), (3, .int (-2 : Int32)), (2, .int x39), (0, .ref v0), (1, .int v1)] dX12_bears_34 (by decide) rfl ?_
      obtain ⟨n40, h⟩ := h
      refine j_sub [3, 4, 2, 1, 0] rfl ?_
      exact m_X12_bears_L36 E EU  n40 v0 v1 x39 (-2 : Int32) (50 : Int32) Z I30 L31 hZ hx hc hb kv0 h
    · have h := h.2 c36
      refine j_iconst E (v := -1) dX12_bears_20 (by decide) ?_
      exact ju_ireturn E EU hc hb ⟨hx, hZ, hb, _, rfl, h⟩ dX12_bears_21
set_option maxRecDepth 100000 in
def f_X12_breaks_b124 (B : Nat × Nat) (K56 : Nat → Int32 → Int32 → Int32 → Int32 → Int32 → Int32 → jZ → jI → jL → Prop) (Q : Int32 → jZ → jI → jL → Prop) (v0 : Nat) (v1 : Int32) (v2 : Int32) (v3 : Int32) (v4 : Int32) (v5 : Int32) (v6 : Int32) (Z : jZ) (I : jI) (L : jL) : Prop := (∀ x1 : Int32, x1 = v6 + 1 → K56 v0 v1 v2 v3 v4 v5 x1 Z I L)
set_option maxHeartbeats 4000000 in
set_option maxRecDepth 100000 in
theorem m_X12_breaks_b124 {G : jG} {B : Nat × Nat} {Z0 : jZ} {Q : Int32 → jZ → jI → jL → Prop} (E : jE G cX12_breaks RX12 w_X12_breaks 7 (some .int) (jrm B 107 2589 Z0) jRF) (EU : jEU G B Z0 (urtI B Z0 Q)) (K56 : Nat → Int32 → Int32 → Int32 → Int32 → Int32 → Int32 → jZ → jI → jL → Prop) (hK56 : ∀ (v0 : Nat) (v1 : Int32) (v2 : Int32) (v3 : Int32) (v4 : Int32) (v5 : Int32) (v6 : Int32) (Z : jZ) (I : jI) (L : jL), SH Z → jext Z0 Z → jle Z0 Z → jin B Z → jk Z v0 12 → K56 v0 v1 v2 v3 v4 v5 v6 Z I L → jJ G 7 56 [(0, .ref v0), (1, .int v1), (2, .int v2), (3, .int v3), (4, .int v4), (5, .int v5), (6, .int v6)] [] Z I L (jcz Z - jcz Z0) (jsz Z - jsz Z0)) (v0 : Nat) (v1 : Int32) (v2 : Int32) (v3 : Int32) (v4 : Int32) (v5 : Int32) (v6 : Int32) (Z : jZ) (I : jI) (L : jL) (hZ : SH Z) (hx : jext Z0 Z) (hc : jle Z0 Z) (hb : jin B Z) (kv0 : jk Z v0 12) (h : f_X12_breaks_b124 B K56 Q v0 v1 v2 v3 v4 v5 v6 Z I L) : jJ G 7 124 [(0, .ref v0), (1, .int v1), (2, .int v2), (3, .int v3), (4, .int v4), (5, .int v5), (6, .int v6)] [] Z I L (jcz Z - jcz Z0) (jsz Z - jsz Z0) := by
  obtain ⟨x1, ex1⟩ : ∃ y : Int32, y = v6 + 1 := ⟨_, rfl⟩
  have h := h x1 ex1
  refine j_iinc E x1 [(6, .int x1), (0, .ref v0), (1, .int v1), (2, .int v2), (3, .int v3), (4, .int v4), (5, .int v5)] dX12_breaks_124 6 rfl (by rw [ex1]; rfl) (by decide) rfl ?_
  refine j_goto E 56 dX12_breaks_127 (by decide) ?_
  refine j_sub [1, 2, 3, 4, 5, 6, 0] rfl ?_
  exact hK56 v0 v1 v2 v3 v4 v5 x1 Z I L hZ hx hc hb kv0 h
set_option maxRecDepth 100000 in
def f_X12_breaks_b114 (B : Nat × Nat) (K56 : Nat → Int32 → Int32 → Int32 → Int32 → Int32 → Int32 → jZ → jI → jL → Prop) (Q : Int32 → jZ → jI → jL → Prop) (v0 : Nat) (v1 : Int32) (v2 : Int32) (v3 : Int32) (v6 : Int32) (Z : jZ) (I : jI) (L : jL) : Prop := (∀ x2 : Int32, x2 = (I v0 41) → f_X12_breaks_b124 B K56 Q v0 v1 v2 v3 v6 x2 v6 Z I L)
set_option maxHeartbeats 4000000 in
set_option maxRecDepth 100000 in
theorem m_X12_breaks_b114 {G : jG} {B : Nat × Nat} {Z0 : jZ} {Q : Int32 → jZ → jI → jL → Prop} (E : jE G cX12_breaks RX12 w_X12_breaks 7 (some .int) (jrm B 107 2589 Z0) jRF) (EU : jEU G B Z0 (urtI B Z0 Q)) (K56 : Nat → Int32 → Int32 → Int32 → Int32 → Int32 → Int32 → jZ → jI → jL → Prop) (hK56 : ∀ (v0 : Nat) (v1 : Int32) (v2 : Int32) (v3 : Int32) (v4 : Int32) (v5 : Int32) (v6 : Int32) (Z : jZ) (I : jI) (L : jL), SH Z → jext Z0 Z → jle Z0 Z → jin B Z → jk Z v0 12 → K56 v0 v1 v2 v3 v4 v5 v6 Z I L → jJ G 7 56 [(0, .ref v0), (1, .int v1), (2, .int v2), (3, .int v3), (4, .int v4), (5, .int v5), (6, .int v6)] [] Z I L (jcz Z - jcz Z0) (jsz Z - jsz Z0)) (v0 : Nat) (v1 : Int32) (v2 : Int32) (v3 : Int32) (v6 : Int32) (Z : jZ) (I : jI) (L : jL) (hZ : SH Z) (hx : jext Z0 Z) (hc : jle Z0 Z) (hb : jin B Z) (kv0 : jk Z v0 12) (h : f_X12_breaks_b114 B K56 Q v0 v1 v2 v3 v6 Z I L) : jJ G 7 114 [(0, .ref v0), (1, .int v1), (2, .int v2), (3, .int v3), (6, .int v6)] [] Z I L (jcz Z - jcz Z0) (jsz Z - jsz Z0) := by
  refine j_iload E dX12_breaks_114 4 rfl ?_
  refine j_istore E 4 [(4, .int v6), (0, .ref v0), (1, .int v1), (2, .int v2), (3, .int v3), (6, .int v6)] dX12_breaks_116 (by decide) rfl ?_
  refine j_aload_n E dX12_breaks_118 1 rfl ?_
  refine j_geti E 12 41 rfl rfl (by decide) (by decide) (iw iT_12) rfl rfl (tw W_853) kv0 dX12_breaks_119 ?_
  refine j_topi (fun x2 ex2 => ?_)
  have h := h x2 ex2
  refine j_istore E 5 [(5, .int x2), (4, .int v6), (0, .ref v0), (1, .int v1), (2, .int v2), (3, .int v3), (6, .int v6)] dX12_breaks_122 (by decide) rfl ?_
  refine j_sub [2, 3, 4, 5, 1, 0, 6] rfl ?_
  exact m_X12_breaks_b124 E EU K56 hK56 v0 v1 v2 v3 v6 x2 v6 Z I L hZ hx hc hb kv0 h
set_option maxRecDepth 100000 in
def f_X12_breaks_L56 (B : Nat × Nat)  (Q : Int32 → jZ → jI → jL → Prop) : Nat → Nat → Int32 → Int32 → Int32 → Int32 → Int32 → Int32 → jZ → jI → jL → Prop
  | 0 => fun _ _ _ _ _ _ _ _ _ _ => False
  | n + 1 => fun v0 v1 v2 v3 v4 v5 v6 Z I L => (((8 : Int32) ≤ v6 → (∀ b4 : Nat, jr Z v0 13 = some b4 → (vp_in v1 6 ∧ (∀ I6 : jI, I6 = jpI I b4 v1.toNatClampNeg v3 → ((0 ≤ v4 → (∀ I8 : jI, I8 = jpI I6 v0 21 (0 : Int32) → (f_X12_tell v0 (v5.toInt64) Z I8 L (fun I11 L12 => (f_X12_tell v0 (v2.toInt64) Z I11 L12 (fun I17 L18 => Q v4 Z I17 L18)))))) ∧ (¬ (0 ≤ v4) → Q (-2 : Int32) Z I6 L)))))) ∧ (¬ ((8 : Int32) ≤ v6) → (f_X12_has v3 v6 Z I L (fun r27 I23 L24 => ((¬ r27 = 0 → (∀ b29 : Nat, jr Z v0 13 = some b29 → (vp_in v1 6 ∧ (∀ I31 : jI, I31 = jpI I23 b29 v1.toNatClampNeg (v3 &&& (((1 : Int32) <<< (v6 &&& 31)) ^^^ (-1 : Int32))) → (f_X12_findClimb B v0 v1 Z I31 L24 (fun r38 Z33 I34 L35 => ((r38 = 0 → f_X12_breaks_b124 B (f_X12_breaks_L56 B Q n) Q v0 v1 v2 v3 v4 v5 v6 Z33 I34 L35) ∧ (¬ (r38 = 0) → ((v4 < 0 → f_X12_breaks_b114 B (f_X12_breaks_L56 B Q n) Q v0 v1 v2 v3 v6 Z33 I34 L35) ∧ (¬ (v4 < 0) → (((I34 v0 41) < v5 → f_X12_breaks_b114 B (f_X12_breaks_L56 B Q n) Q v0 v1 v2 v3 v6 Z33 I34 L35) ∧ (¬ ((I34 v0 41) < v5) → f_X12_breaks_b124 B (f_X12_breaks_L56 B Q n) Q v0 v1 v2 v3 v4 v5 v6 Z33 I34 L35)))))))))))) ∧ (r27 = 0 → f_X12_breaks_b124 B (f_X12_breaks_L56 B Q n) Q v0 v1 v2 v3 v4 v5 v6 Z I23 L24))))))
set_option maxHeartbeats 4000000 in
set_option maxRecDepth 100000 in
theorem m_X12_breaks_L56 {G : jG} {Z0 : jZ} {B : Nat × Nat} {Q : Int32 → jZ → jI → jL → Prop} (E : jE G cX12_breaks RX12 w_X12_breaks 7 (some .int) (jrm B 107 2589 Z0) jRF) (EU : jEU G B Z0 (urtI B Z0 Q))  : ∀ (n : Nat) (v0 : Nat) (v1 : Int32) (v2 : Int32) (v3 : Int32) (v4 : Int32) (v5 : Int32) (v6 : Int32) (Z : jZ) (I : jI) (L : jL), SH Z → jext Z0 Z → jle Z0 Z → jin B Z → jk Z v0 12 → f_X12_breaks_L56 B  Q n v0 v1 v2 v3 v4 v5 v6 Z I L → jJ G 7 56 [(0, .ref v0), (1, .int v1), (2, .int v2), (3, .int v3), (4, .int v4), (5, .int v5), (6, .int v6)] [] Z I L (jcz Z - jcz Z0) (jsz Z - jsz Z0) := by
  intro n
  induction n with
  | zero => intro v0 v1 v2 v3 v4 v5 v6 Z I L _ _ _ _ _ h; exact h.elim
  | succ n ih =>
    intro v0 v1 v2 v3 v4 v5 v6 Z I L hZ hx hc hb kv0 h
    have h : (((8 : Int32) ≤ v6 → (∀ b4 : Nat, jr Z v0 13 = some b4 → (vp_in v1 6 ∧ (∀ I6 : jI, I6 = jpI I b4 v1.toNatClampNeg v3 → ((0 ≤ v4 → (∀ I8 : jI, I8 = jpI I6 v0 21 (0 : Int32) → (f_X12_tell v0 (v5.toInt64) Z I8 L (fun I11 L12 => (f_X12_tell v0 (v2.toInt64) Z I11 L12 (fun I17 L18 => Q v4 Z I17 L18)))))) ∧ (¬ (0 ≤ v4) → Q (-2 : Int32) Z I6 L)))))) ∧ (¬ ((8 : Int32) ≤ v6) → (f_X12_has v3 v6 Z I L (fun r27 I23 L24 => ((¬ r27 = 0 → (∀ b29 : Nat, jr Z v0 13 = some b29 → (vp_in v1 6 ∧ (∀ I31 : jI, I31 = jpI I23 b29 v1.toNatClampNeg (v3 &&& (((1 : Int32) <<< (v6 &&& 31)) ^^^ (-1 : Int32))) → (f_X12_findClimb B v0 v1 Z I31 L24 (fun r38 Z33 I34 L35 => ((r38 = 0 → f_X12_breaks_b124 B (f_X12_breaks_L56 B Q n) Q v0 v1 v2 v3 v4 v5 v6 Z33 I34 L35) ∧ (¬ (r38 = 0) → ((v4 < 0 → f_X12_breaks_b114 B (f_X12_breaks_L56 B Q n) Q v0 v1 v2 v3 v6 Z33 I34 L35) ∧ (¬ (v4 < 0) → (((I34 v0 41) < v5 → f_X12_breaks_b114 B (f_X12_breaks_L56 B Q n) Q v0 v1 v2 v3 v6 Z33 I34 L35) ∧ (¬ ((I34 v0 41) < v5) → f_X12_breaks_b124 B (f_X12_breaks_L56 B Q n) Q v0 v1 v2 v3 v4 v5 v6 Z33 I34 L35)))))))))))) ∧ (r27 = 0 → f_X12_breaks_b124 B (f_X12_breaks_L56 B Q n) Q v0 v1 v2 v3 v4 v5 v6 Z I23 L24)))))) := h
    obtain ⟨K56, eK56⟩ : ∃ K : Nat → Int32 → Int32 → Int32 → Int32 → Int32 → Int32 → jZ → jI → jL → Prop, K = f_X12_breaks_L56 B  Q n := ⟨_, rfl⟩
    have hK56 := ih
    clear eK56 K56
    generalize f_X12_breaks_L56 B  Q n = K56 at hK56 h
    refine j_iload E dX12_breaks_56 6 rfl ?_
    refine j_bipush E (v := 8) dX12_breaks_58 (by decide) ?_
    refine j_icmp_ge E 130 dX12_breaks_60 (by decide) (fun c3 => ?_) (fun c3 => ?_)
    · have h := h.1 c3
      refine j_aload_n E dX12_breaks_130 0 rfl ?_
      obtain ⟨b4, eb4, kb4, lb4⟩ := sh_f hZ kv0 (j := 13) (k := 14) (m := 6) rfl
      have h := h b4 eb4
      refine j_getr E 12 13 rfl rfl (by decide) (by decide) (iw iT_12) rfl rfl (tw W_802) kv0 eb4 dX12_breaks_131 ?_
      refine j_iload_n E dX12_breaks_134 1 rfl ?_
      refine j_iload_n E dX12_breaks_135 3 rfl ?_
      obtain ⟨o5, h⟩ := h
      refine j_iast E kb4 (by rw [lb4]; exact o5) dX12_breaks_136 ?_
      refine j_nmI (fun I6 eI6 => ?_)
      have h := h I6 eI6
      refine j_iload E dX12_breaks_137 4 rfl ?_
      refine j_if_ge E 145 dX12_breaks_139 (by decide) (fun c7 => ?_) (fun c7 => ?_)
      · have h := h.1 c7
        refine j_aload_n E dX12_breaks_145 0 rfl ?_
        refine j_iconst E (v := 0) dX12_breaks_146 (by decide) ?_
        refine j_puti E 12 21 rfl rfl (by decide) (by decide) (iw iT_12) tyX12_ok nmX12 rfl rfl (tw W_692) rfl rfl rfl kv0 dX12_breaks_147 ?_
        refine j_nmI (fun I8 eI8 => ?_)
        have h := h I8 eI8
        refine j_aload_n E dX12_breaks_150 0 rfl ?_
        refine j_iload E dX12_breaks_151 5 rfl ?_
        refine j_i2l E dX12_breaks_153 ?_
        refine j_callV E [.long (v5.toInt64)] [] (c_X12_tell (gL G) (gD G) (gY G) v0 (v5.toInt64) Z I8 L _ hZ kv0 h) (gwV W_820 W_821 W_822 W_695 W_819) rfl ⟨rfl, fy_X12_tell⟩ ⟨Nat.le_of_ble_eq_true rfl, Nat.le_of_ble_eq_true rfl⟩ (c := 12) rfl (by decide) kv0 rfl rfl (Nat.le_of_ble_eq_true rfl) (ju_kn hb) dX12_breaks_154 (fun v9 Z10 I11 L12 q13 => ?_)
        obtain ⟨rfl, rfl, h⟩ := q13
        show jJ G 7 157 [(0, .ref v0), (1, .int v1), (2, .int v2), (3, .int v3), (4, .int v4), (5, .int v5), (6, .int v6)] [] Z I11 L12 (jcz Z - jcz Z0) (jsz Z - jsz Z0)
        refine j_aload_n E dX12_breaks_157 0 rfl ?_
        refine j_iload_n E dX12_breaks_158 2 rfl ?_
        refine j_i2l E dX12_breaks_159 ?_
        refine j_callV E [.long (v2.toInt64)] [] (c_X12_tell (gL G) (gD G) (gY G) v0 (v2.toInt64) Z I11 L12 _ hZ kv0 h) (gwV W_820 W_821 W_822 W_695 W_819) rfl ⟨rfl, fy_X12_tell⟩ ⟨Nat.le_of_ble_eq_true rfl, Nat.le_of_ble_eq_true rfl⟩ (c := 12) rfl (by decide) kv0 rfl rfl (Nat.le_of_ble_eq_true rfl) (ju_kn hb) dX12_breaks_160 (fun v15 Z16 I17 L18 q19 => ?_)
        obtain ⟨rfl, rfl, h⟩ := q19
        show jJ G 7 163 [(0, .ref v0), (1, .int v1), (2, .int v2), (3, .int v3), (4, .int v4), (5, .int v5), (6, .int v6)] [] Z I17 L18 (jcz Z - jcz Z0) (jsz Z - jsz Z0)
        refine j_iload E dX12_breaks_163 4 rfl ?_
        exact ju_ireturn E EU hc hb ⟨hx, hZ, hb, _, rfl, h⟩ dX12_breaks_165
      · have h := h.2 c7
        refine j_bipush E (v := -2) dX12_breaks_142 (by decide) ?_
        exact ju_ireturn E EU hc hb ⟨hx, hZ, hb, _, rfl, h⟩ dX12_breaks_144
    · have h := h.2 c3
      refine j_iload_n E dX12_breaks_63 3 rfl ?_
      refine j_iload E dX12_breaks_64 6 rfl ?_
      refine j_callS E [.int v3, .int v6] [] (c_X12_has (gL G) (gD G) (gY G) v3 v6 Z I L _ hZ  h) (gwS W_840 W_841 W_695 W_839) rfl fy_X12_has ⟨Nat.le_of_ble_eq_true rfl, Nat.le_of_ble_eq_true rfl⟩ rfl rfl (Nat.le_of_ble_eq_true rfl) (ju_kn hb) dX12_breaks_66 (fun v21 Z22 I23 L24 q25 => ?_)
      obtain ⟨rfl, r27, rfl, zr27, h⟩ := q25
      show jJ G 7 69 [(0, .ref v0), (1, .int v1), (2, .int v2), (3, .int v3), (4, .int v4), (5, .int v5), (6, .int v6)] [.int r27] Z I23 L24 (jcz Z - jcz Z0) (jsz Z - jsz Z0)
      refine j_if_ne E 75 dX12_breaks_69 (by decide) (fun c28 => ?_) (fun c28 => ?_)
      · have h := h.1 c28
        refine j_aload_n E dX12_breaks_75 0 rfl ?_
        obtain ⟨b29, eb29, kb29, lb29⟩ := sh_f hZ kv0 (j := 13) (k := 14) (m := 6) rfl
        have h := h b29 eb29
        refine j_getr E 12 13 rfl rfl (by decide) (by decide) (iw iT_12) rfl rfl (tw W_802) kv0 eb29 dX12_breaks_76 ?_
        refine j_iload_n E dX12_breaks_79 1 rfl ?_
        refine j_iload_n E dX12_breaks_80 3 rfl ?_
        refine j_iconst E (v := 1) dX12_breaks_81 (by decide) ?_
        refine j_iload E dX12_breaks_82 6 rfl ?_
        refine j_ishl E dX12_breaks_84 ?_
        refine j_iconst E (v := -1) dX12_breaks_85 (by decide) ?_
        refine j_ixor E dX12_breaks_86 ?_
        refine j_iand E dX12_breaks_87 ?_
        obtain ⟨o30, h⟩ := h
        refine j_iast E kb29 (by rw [lb29]; exact o30) dX12_breaks_88 ?_
        refine j_nmI (fun I31 eI31 => ?_)
        have h := h I31 eI31
        refine j_aload_n E dX12_breaks_89 0 rfl ?_
        refine j_iload_n E dX12_breaks_90 1 rfl ?_
        refine ju_callV E [.int v1] [] (c_X12_findClimb (gL G) (gD G) (gY G) B v0 v1 Z I31 L24 _ hZ hb kv0 h) (gwV W_864 W_865 W_866 W_695 W_863) rfl ⟨rfl, fy_X12_findClimb⟩ ⟨Nat.le_of_ble_eq_true rfl, Nat.le_of_ble_eq_true rfl⟩ (c := 12) rfl (by decide) kv0 rfl rfl (Nat.le_of_ble_eq_true rfl) (ju_f hc hb) dX12_breaks_91 (fun v32 Z33 I34 L35 q36 j37 => ?_)
        refine ju_next hc j37 ?_
        have hc := jle_trans hc j37
        obtain ⟨yZ33, hZ33, hbZ33, r38, rfl, zr38, h⟩ := q36
        have hZ := hZ33
        have hx : jext Z0 Z33 := jext_trans hx yZ33
        have hb := hbZ33
        have k39 := (yZ33 _ _ kv0).1
        show jJ G 7 94 [(0, .ref v0), (1, .int v1), (2, .int v2), (3, .int v3), (4, .int v4), (5, .int v5), (6, .int v6)] [.int r38] Z33 I34 L35 (jcz Z33 - jcz Z0) (jsz Z33 - jsz Z0)
        refine j_if_eq E 124 dX12_breaks_94 (by decide) (fun c40 => ?_) (fun c40 => ?_)
        · have h := h.1 c40
          refine j_sub [0, 1, 2, 3, 4, 5, 6] rfl ?_
          exact m_X12_breaks_b124 E EU K56 hK56 v0 v1 v2 v3 v4 v5 v6 Z33 I34 L35 hZ hx hc hb k39 h
        · have h := h.2 c40
          refine j_iload E dX12_breaks_97 4 rfl ?_
          refine j_if_lt E 114 dX12_breaks_99 (by decide) (fun c41 => ?_) (fun c41 => ?_)
          · have h := h.1 c41
            refine j_sub [0, 1, 2, 3, 6] rfl ?_
            exact m_X12_breaks_b114 E EU K56 hK56 v0 v1 v2 v3 v6 Z33 I34 L35 hZ hx hc hb k39 h
          · have h := h.2 c41
            refine j_aload_n E dX12_breaks_102 0 rfl ?_
            refine j_geti E 12 41 rfl rfl (by decide) (by decide) (iw iT_12) rfl rfl (tw W_853) k39 dX12_breaks_103 ?_
            refine j_iload E dX12_breaks_106 5 rfl ?_
            refine j_icmp_lt E 114 dX12_breaks_108 (by decide) (fun c42 => ?_) (fun c42 => ?_)
            · have h := h.1 c42
              refine j_sub [0, 1, 2, 3, 6] rfl ?_
              exact m_X12_breaks_b114 E EU K56 hK56 v0 v1 v2 v3 v6 Z33 I34 L35 hZ hx hc hb k39 h
            · have h := h.2 c42
              refine j_goto E 124 dX12_breaks_111 (by decide) ?_
              refine j_sub [0, 1, 2, 3, 4, 5, 6] rfl ?_
              exact m_X12_breaks_b124 E EU K56 hK56 v0 v1 v2 v3 v4 v5 v6 Z33 I34 L35 hZ hx hc hb k39 h
      · have h := h.2 c28
        refine j_goto E 124 dX12_breaks_72 (by decide) ?_
        refine j_sub [0, 1, 2, 3, 4, 5, 6] rfl ?_
        exact m_X12_breaks_b124 E EU K56 hK56 v0 v1 v2 v3 v4 v5 v6 Z I23 L24 hZ hx hc hb kv0 h
set_option maxRecDepth 100000 in
def f_X12_breaks_b38 (B : Nat × Nat)  (Q : Int32 → jZ → jI → jL → Prop) (v0 : Nat) (v1 : Int32) (s0 : Int32) (Z : jZ) (I : jI) (L : jL) : Prop := (∀ b43 : Nat, jr Z v0 13 = some b43 → (vp_in v1 6 ∧ (∀ x45 : Int32, x45 = (I b43 v1.toNatClampNeg) → (∃ m56 : Nat, f_X12_breaks_L56 B  Q m56 v0 v1 s0 x45 (-2 : Int32) (0 : Int32) (0 : Int32) Z I L))))
set_option maxHeartbeats 4000000 in
set_option maxRecDepth 100000 in
theorem m_X12_breaks_b38 {G : jG} {B : Nat × Nat} {Z0 : jZ} {Q : Int32 → jZ → jI → jL → Prop} (E : jE G cX12_breaks RX12 w_X12_breaks 7 (some .int) (jrm B 107 2589 Z0) jRF) (EU : jEU G B Z0 (urtI B Z0 Q))  (v0 : Nat) (v1 : Int32) (s0 : Int32) (Z : jZ) (I : jI) (L : jL) (hZ : SH Z) (hx : jext Z0 Z) (hc : jle Z0 Z) (hb : jin B Z) (kv0 : jk Z v0 12) (h : f_X12_breaks_b38 B  Q v0 v1 s0 Z I L) : jJ G 7 38 [(0, .ref v0), (1, .int v1)] [.int s0] Z I L (jcz Z - jcz Z0) (jsz Z - jsz Z0) := by
  refine j_istore_n E 2 [(2, .int s0), (0, .ref v0), (1, .int v1)] dX12_breaks_38 rfl (by decide) rfl ?_
  refine j_aload_n E dX12_breaks_39 1 rfl ?_
  obtain ⟨b43, eb43, kb43, lb43⟩ := sh_f hZ kv0 (j := 13) (k := 14) (m := 6) rfl
  have h := h b43 eb43
  refine j_getr E 12 13 rfl rfl (by decide) (by decide) (iw iT_12) rfl rfl (tw W_802) kv0 eb43 dX12_breaks_40 ?_
  refine j_iload_n E dX12_breaks_43 2 rfl ?_
  obtain ⟨o44, h⟩ := h
  refine j_iald E kb43 (by rw [lb43]; exact o44) dX12_breaks_44 ?_
  refine j_topi (fun x45 ex45 => ?_)
  have h := h x45 ex45
  refine j_istore_n E 3 [(3, .int x45), (2, .int s0), (0, .ref v0), (1, .int v1)] dX12_breaks_45 rfl (by decide) rfl ?_
  refine j_bipush E (v := -2) dX12_breaks_46 (by decide) ?_
  refine j_istore E 4 [(4, .int (-2 : Int32)), (3, .int x45), (2, .int s0), (0, .ref v0), (1, .int v1)] dX12_breaks_48 (by decide) rfl ?_
  refine j_iconst E (v := 0) dX12_breaks_50 (by decide) ?_
  refine j_istore E 5 [(5, .int (0 : Int32)), (4, .int (-2 : Int32)), (3, .int x45), (2, .int s0), (0, .ref v0), (1, .int v1)] dX12_breaks_51 (by decide) rfl ?_
  refine j_iconst E (v := 0) dX12_breaks_53 (by decide) ?_
  refine j_istore E 6 [(6, .int (0 : Int32)), (5, .int (0 : Int32)), (4, .int (-2 : Int32)), (3, .int x45), (2, .int s0), (0, .ref v0), (1, .int v1)] dX12_breaks_54 (by decide) rfl ?_
  obtain ⟨n46, h⟩ := h
  refine j_sub [5, 6, 4, 3, 2, 1, 0] rfl ?_
  exact m_X12_breaks_L56 E EU  n46 v0 v1 s0 x45 (-2 : Int32) (0 : Int32) (0 : Int32) Z I L hZ hx hc hb kv0 h
set_option maxRecDepth 100000 in
def f_X12_breaks (B : Nat × Nat) (v0 : Nat) (v1 : Int32) (Z : jZ) (I : jI) (L : jL) (Q : Int32 → jZ → jI → jL → Prop) : Prop := (∀ I47 : jI, I47 = jpI I v0 22 (0 : Int32) → (f_X12_isOne v0 v1 Z I47 L (fun r54 I50 L51 => ((r54 = 0 → Q (-1 : Int32) Z I50 L51) ∧ (¬ (r54 = 0) → ((¬ (I50 v0 0) = 0 → (f_X12_findClimb B v0 v1 Z I50 L51 (fun r63 Z58 I59 L60 => ((r63 = 0 → f_X12_breaks_b38 B  Q v0 v1 (-1 : Int32) Z58 I59 L60) ∧ (¬ (r63 = 0) → f_X12_breaks_b38 B  Q v0 v1 (I59 v0 41) Z58 I59 L60))))) ∧ ((I50 v0 0) = 0 → Q (-1 : Int32) Z I50 L51)))))))
set_option maxHeartbeats 4000000 in
set_option maxRecDepth 100000 in
theorem c_X12_breaks (l : Launch) (D : va_G) (cy : jC) (B : Nat × Nat) (v0 : Nat) (v1 : Int32) (Z : jZ) (I : jI) (L : jL) (Q : Int32 → jZ → jI → jL → Prop) (hZ : SH Z) (hb : jin B Z) (kv0 : jk Z v0 12) (h : f_X12_breaks B v0 v1 Z I L Q) : jCtU l yX12_breaks w_X12_breaks B 107 2589 D cy [.ref v0, .int v1] Z I L (urtI B Z Q) := by
  refine jCtU_of (cc := cX12_breaks) (maxL := 7) (ret := (some .int)) (by decide +kernel) rfl (Nat.le_of_ble_eq_true rfl) ?_
  intro G eD eY eL E EU
  subst eD; subst eY; subst eL
  have E : jE G cX12_breaks RX12 w_X12_breaks 7 (some .int) (jrm B 107 2589 Z) jRF := E
  have hx : jext Z Z := jext_rfl
  have hc : jle Z Z := jle_rfl
  show jJ G 7 0 [(0, .ref v0), (1, .int v1)] [] Z I L (jcz Z - jcz Z) (jsz Z - jsz Z)
  refine j_aload_n E dX12_breaks_0 0 rfl ?_
  refine j_iconst E (v := 0) dX12_breaks_1 (by decide) ?_
  refine j_puti E 12 22 rfl rfl (by decide) (by decide) (iw iT_12) tyX12_ok nmX12 rfl rfl (tw W_690) rfl rfl rfl kv0 dX12_breaks_2 ?_
  refine j_nmI (fun I47 eI47 => ?_)
  have h := h I47 eI47
  refine j_aload_n E dX12_breaks_5 0 rfl ?_
  refine j_iload_n E dX12_breaks_6 1 rfl ?_
  refine j_callV E [.int v1] [] (c_X12_isOne (gL G) (gD G) (gY G) v0 v1 Z I47 L _ hZ kv0 h) (gwV W_804 W_805 W_806 W_695 W_803) rfl ⟨rfl, fy_X12_isOne⟩ ⟨Nat.le_of_ble_eq_true rfl, Nat.le_of_ble_eq_true rfl⟩ (c := 12) rfl (by decide) kv0 rfl rfl (Nat.le_of_ble_eq_true rfl) (ju_kn hb) dX12_breaks_7 (fun v48 Z49 I50 L51 q52 => ?_)
  obtain ⟨rfl, r54, rfl, zr54, h⟩ := q52
  show jJ G 7 10 [(0, .ref v0), (1, .int v1)] [.int r54] Z I50 L51 (jcz Z - jcz Z) (jsz Z - jsz Z)
  refine j_if_eq E 20 dX12_breaks_10 (by decide) (fun c55 => ?_) (fun c55 => ?_)
  · have h := h.1 c55
    refine j_iconst E (v := -1) dX12_breaks_20 (by decide) ?_
    exact ju_ireturn E EU hc hb ⟨hx, hZ, hb, _, rfl, h⟩ dX12_breaks_21
  · have h := h.2 c55
    refine j_aload_n E dX12_breaks_13 0 rfl ?_
    refine j_geti E 12 0 rfl rfl (by decide) (by decide) (iw iT_12) rfl rfl (tw W_693) kv0 dX12_breaks_14 ?_
    refine j_if_ne E 22 dX12_breaks_17 (by decide) (fun c56 => ?_) (fun c56 => ?_)
    · have h := h.1 c56
      refine j_aload_n E dX12_breaks_22 0 rfl ?_
      refine j_iload_n E dX12_breaks_23 1 rfl ?_
      refine ju_callV E [.int v1] [] (c_X12_findClimb (gL G) (gD G) (gY G) B v0 v1 Z I50 L51 _ hZ hb kv0 h) (gwV W_864 W_865 W_866 W_695 W_863) rfl ⟨rfl, fy_X12_findClimb⟩ ⟨Nat.le_of_ble_eq_true rfl, Nat.le_of_ble_eq_true rfl⟩ (c := 12) rfl (by decide) kv0 rfl rfl (Nat.le_of_ble_eq_true rfl) (ju_f hc hb) dX12_breaks_24 (fun v57 Z58 I59 L60 q61 j62 => ?_)
      refine ju_next hc j62 ?_
      have hc := jle_trans hc j62
      obtain ⟨yZ58, hZ58, hbZ58, r63, rfl, zr63, h⟩ := q61
      have hZ := hZ58
      have hx : jext Z Z58 := jext_trans hx yZ58
      have hb := hbZ58
      have k64 := (yZ58 _ _ kv0).1
      show jJ G 7 27 [(0, .ref v0), (1, .int v1)] [.int r63] Z58 I59 L60 (jcz Z58 - jcz Z) (jsz Z58 - jsz Z)
      refine j_if_eq E 37 dX12_breaks_27 (by decide) (fun c65 => ?_) (fun c65 => ?_)
      · have h := h.1 c65
        refine j_iconst E (v := -1) dX12_breaks_37 (by decide) ?_
        refine j_sub [0, 1] rfl ?_
        exact m_X12_breaks_b38 E EU  v0 v1 (-1 : Int32) Z58 I59 L60 hZ hx hc hb k64 h
      · have h := h.2 c65
        refine j_aload_n E dX12_breaks_30 0 rfl ?_
        refine j_geti E 12 41 rfl rfl (by decide) (by decide) (iw iT_12) rfl rfl (tw W_853) k64 dX12_breaks_31 ?_
        refine j_goto E 38 dX12_breaks_34 (by decide) ?_
        refine j_sub [0, 1] rfl ?_
        exact m_X12_breaks_b38 E EU  v0 v1 (I59 v0 41) Z58 I59 L60 hZ hx hc hb k64 h
    · have h := h.2 c56
      refine j_iconst E (v := -1) dX12_breaks_20 (by decide) ?_
      exact ju_ireturn E EU hc hb ⟨hx, hZ, hb, _, rfl, h⟩ dX12_breaks_21
set_option maxRecDepth 100000 in
def f_X12_findAll_b79 (B : Nat × Nat) (K17 : Nat → Int32 → jZ → jI → jL → Prop) (Q : jZ → jI → jL → Prop) (v0 : Nat) (v1 : Int32) (Z : jZ) (I : jI) (L : jL) : Prop := (∀ x1 : Int32, x1 = v1 + 1 → K17 v0 x1 Z I L)
set_option maxHeartbeats 4000000 in
set_option maxRecDepth 100000 in
theorem m_X12_findAll_b79 {G : jG} {B : Nat × Nat} {Z0 : jZ} {Q : jZ → jI → jL → Prop} (E : jE G cX12_findAll RX12 w_X12_findAll 2 none (jrm B 107 2589 Z0) jRF) (EU : jEU G B Z0 (urtV B Z0 Q)) (K17 : Nat → Int32 → jZ → jI → jL → Prop) (hK17 : ∀ (v0 : Nat) (v1 : Int32) (Z : jZ) (I : jI) (L : jL), SH Z → jext Z0 Z → jle Z0 Z → jin B Z → jk Z v0 12 → K17 v0 v1 Z I L → jJ G 2 17 [(0, .ref v0), (1, .int v1)] [] Z I L (jcz Z - jcz Z0) (jsz Z - jsz Z0)) (v0 : Nat) (v1 : Int32) (Z : jZ) (I : jI) (L : jL) (hZ : SH Z) (hx : jext Z0 Z) (hc : jle Z0 Z) (hb : jin B Z) (kv0 : jk Z v0 12) (h : f_X12_findAll_b79 B K17 Q v0 v1 Z I L) : jJ G 2 79 [(0, .ref v0), (1, .int v1)] [] Z I L (jcz Z - jcz Z0) (jsz Z - jsz Z0) := by
  obtain ⟨x1, ex1⟩ : ∃ y : Int32, y = v1 + 1 := ⟨_, rfl⟩
  have h := h x1 ex1
  refine j_iinc E x1 [(1, .int x1), (0, .ref v0)] dX12_findAll_79 1 rfl (by rw [ex1]; rfl) (by decide) rfl ?_
  refine j_goto E 17 dX12_findAll_82 (by decide) ?_
  refine j_sub [1, 0] rfl ?_
  exact hK17 v0 x1 Z I L hZ hx hc hb kv0 h
set_option maxRecDepth 100000 in
def f_X12_findAll_L17 (B : Nat × Nat)  (Q : jZ → jI → jL → Prop) : Nat → Nat → Int32 → jZ → jI → jL → Prop
  | 0 => fun _ _ _ _ _ => False
  | n + 1 => fun v0 v1 Z I L => (((I v0 8) ≤ v1 → Q Z I L) ∧ (¬ ((I v0 8) ≤ v1) → (((I v0 0) ≤ 0 → Q Z I L) ∧ (¬ ((I v0 0) ≤ 0) → (f_X12_findClimb B v0 v1 Z I L (fun r10 Z5 I6 L7 => ((¬ r10 = 0 → (∀ I13 : jI, I13 = jpI I6 v0 48 ((I6 v0 48) + (1 : Int32)) → (∀ I14 : jI, I14 = jpI I13 v0 49 ((I13 v0 49) + (I13 v0 41)) → (∀ I15 : jI, I15 = jpI I14 v0 50 ((I14 v0 50) + (I14 v0 42)) → f_X12_findAll_b79 B (f_X12_findAll_L17 B Q n) Q v0 v1 Z5 I15 L7)))) ∧ (r10 = 0 → f_X12_findAll_b79 B (f_X12_findAll_L17 B Q n) Q v0 v1 Z5 I6 L7))))))))
set_option maxHeartbeats 4000000 in
set_option maxRecDepth 100000 in
theorem m_X12_findAll_L17 {G : jG} {Z0 : jZ} {B : Nat × Nat} {Q : jZ → jI → jL → Prop} (E : jE G cX12_findAll RX12 w_X12_findAll 2 none (jrm B 107 2589 Z0) jRF) (EU : jEU G B Z0 (urtV B Z0 Q))  : ∀ (n : Nat) (v0 : Nat) (v1 : Int32) (Z : jZ) (I : jI) (L : jL), SH Z → jext Z0 Z → jle Z0 Z → jin B Z → jk Z v0 12 → f_X12_findAll_L17 B  Q n v0 v1 Z I L → jJ G 2 17 [(0, .ref v0), (1, .int v1)] [] Z I L (jcz Z - jcz Z0) (jsz Z - jsz Z0) := by
  intro n
  induction n with
  | zero => intro v0 v1 Z I L _ _ _ _ _ h; exact h.elim
  | succ n ih =>
    intro v0 v1 Z I L hZ hx hc hb kv0 h
    have h : (((I v0 8) ≤ v1 → Q Z I L) ∧ (¬ ((I v0 8) ≤ v1) → (((I v0 0) ≤ 0 → Q Z I L) ∧ (¬ ((I v0 0) ≤ 0) → (f_X12_findClimb B v0 v1 Z I L (fun r10 Z5 I6 L7 => ((¬ r10 = 0 → (∀ I13 : jI, I13 = jpI I6 v0 48 ((I6 v0 48) + (1 : Int32)) → (∀ I14 : jI, I14 = jpI I13 v0 49 ((I13 v0 49) + (I13 v0 41)) → (∀ I15 : jI, I15 = jpI I14 v0 50 ((I14 v0 50) + (I14 v0 42)) → f_X12_findAll_b79 B (f_X12_findAll_L17 B Q n) Q v0 v1 Z5 I15 L7)))) ∧ (r10 = 0 → f_X12_findAll_b79 B (f_X12_findAll_L17 B Q n) Q v0 v1 Z5 I6 L7)))))))) := h
    obtain ⟨K17, eK17⟩ : ∃ K : Nat → Int32 → jZ → jI → jL → Prop, K = f_X12_findAll_L17 B  Q n := ⟨_, rfl⟩
    have hK17 := ih
    clear eK17 K17
    generalize f_X12_findAll_L17 B  Q n = K17 at hK17 h
    refine j_iload_n E dX12_findAll_17 1 rfl ?_
    refine j_aload_n E dX12_findAll_18 0 rfl ?_
    refine j_geti E 12 8 rfl rfl (by decide) (by decide) (iw iT_12) rfl rfl (tw W_698) kv0 dX12_findAll_19 ?_
    refine j_icmp_ge E 85 dX12_findAll_22 (by decide) (fun c2 => ?_) (fun c2 => ?_)
    · have h := h.1 c2
      exact ju_return E EU hc hb ⟨hx, hZ, hb, rfl, h⟩ dX12_findAll_85
    · have h := h.2 c2
      refine j_aload_n E dX12_findAll_25 0 rfl ?_
      refine j_geti E 12 0 rfl rfl (by decide) (by decide) (iw iT_12) rfl rfl (tw W_693) kv0 dX12_findAll_26 ?_
      refine j_if_le E 85 dX12_findAll_29 (by decide) (fun c3 => ?_) (fun c3 => ?_)
      · have h := h.1 c3
        exact ju_return E EU hc hb ⟨hx, hZ, hb, rfl, h⟩ dX12_findAll_85
      · have h := h.2 c3
        refine j_aload_n E dX12_findAll_32 0 rfl ?_
        refine j_iload_n E dX12_findAll_33 1 rfl ?_
        refine ju_callV E [.int v1] [] (c_X12_findClimb (gL G) (gD G) (gY G) B v0 v1 Z I L _ hZ hb kv0 h) (gwV W_864 W_865 W_866 W_695 W_863) rfl ⟨rfl, fy_X12_findClimb⟩ ⟨Nat.le_of_ble_eq_true rfl, Nat.le_of_ble_eq_true rfl⟩ (c := 12) rfl (by decide) kv0 rfl rfl (Nat.le_of_ble_eq_true rfl) (ju_f hc hb) dX12_findAll_34 (fun v4 Z5 I6 L7 q8 j9 => ?_)
        refine ju_next hc j9 ?_
        have hc := jle_trans hc j9
        obtain ⟨yZ5, hZ5, hbZ5, r10, rfl, zr10, h⟩ := q8
        have hZ := hZ5
        have hx : jext Z0 Z5 := jext_trans hx yZ5
        have hb := hbZ5
        have k11 := (yZ5 _ _ kv0).1
        show jJ G 2 37 [(0, .ref v0), (1, .int v1)] [.int r10] Z5 I6 L7 (jcz Z5 - jcz Z0) (jsz Z5 - jsz Z0)
        refine j_if_ne E 43 dX12_findAll_37 (by decide) (fun c12 => ?_) (fun c12 => ?_)
        · have h := h.1 c12
          refine j_aload_n E dX12_findAll_43 0 rfl ?_
          refine j_dup E dX12_findAll_44 rfl ?_
          refine j_geti E 12 48 rfl rfl (by decide) (by decide) (iw iT_12) rfl rfl (tw W_889) k11 dX12_findAll_45 ?_
          refine j_iconst E (v := 1) dX12_findAll_48 (by decide) ?_
          refine j_iadd E dX12_findAll_49 ?_
          refine j_puti E 12 48 rfl rfl (by decide) (by decide) (iw iT_12) tyX12_ok nmX12 rfl rfl (tw W_889) rfl rfl rfl k11 dX12_findAll_50 ?_
          refine j_nmI (fun I13 eI13 => ?_)
          have h := h I13 eI13
          refine j_aload_n E dX12_findAll_53 0 rfl ?_
          refine j_dup E dX12_findAll_54 rfl ?_
          refine j_geti E 12 49 rfl rfl (by decide) (by decide) (iw iT_12) rfl rfl (tw W_890) k11 dX12_findAll_55 ?_
          refine j_aload_n E dX12_findAll_58 0 rfl ?_
          refine j_geti E 12 41 rfl rfl (by decide) (by decide) (iw iT_12) rfl rfl (tw W_853) k11 dX12_findAll_59 ?_
          refine j_iadd E dX12_findAll_62 ?_
          refine j_puti E 12 49 rfl rfl (by decide) (by decide) (iw iT_12) tyX12_ok nmX12 rfl rfl (tw W_890) rfl rfl rfl k11 dX12_findAll_63 ?_
          refine j_nmI (fun I14 eI14 => ?_)
          have h := h I14 eI14
          refine j_aload_n E dX12_findAll_66 0 rfl ?_
          refine j_dup E dX12_findAll_67 rfl ?_
          refine j_geti E 12 50 rfl rfl (by decide) (by decide) (iw iT_12) rfl rfl (tw W_891) k11 dX12_findAll_68 ?_
          refine j_aload_n E dX12_findAll_71 0 rfl ?_
          refine j_geti E 12 42 rfl rfl (by decide) (by decide) (iw iT_12) rfl rfl (tw W_854) k11 dX12_findAll_72 ?_
          refine j_iadd E dX12_findAll_75 ?_
          refine j_puti E 12 50 rfl rfl (by decide) (by decide) (iw iT_12) tyX12_ok nmX12 rfl rfl (tw W_891) rfl rfl rfl k11 dX12_findAll_76 ?_
          refine j_nmI (fun I15 eI15 => ?_)
          have h := h I15 eI15
          refine j_sub [0, 1] rfl ?_
          exact m_X12_findAll_b79 E EU K17 hK17 v0 v1 Z5 I15 L7 hZ hx hc hb k11 h
        · have h := h.2 c12
          refine j_goto E 79 dX12_findAll_40 (by decide) ?_
          refine j_sub [0, 1] rfl ?_
          exact m_X12_findAll_b79 E EU K17 hK17 v0 v1 Z5 I6 L7 hZ hx hc hb k11 h
set_option maxRecDepth 100000 in
def f_X12_findAll (B : Nat × Nat) (v0 : Nat) (Z : jZ) (I : jI) (L : jL) (Q : jZ → jI → jL → Prop) : Prop := (∀ I16 : jI, I16 = jpI I v0 48 (0 : Int32) → (∀ I17 : jI, I17 = jpI I16 v0 49 (0 : Int32) → (∀ I18 : jI, I18 = jpI I17 v0 50 (0 : Int32) → (∃ m17 : Nat, f_X12_findAll_L17 B  Q m17 v0 (0 : Int32) Z I18 L))))
set_option maxHeartbeats 4000000 in
set_option maxRecDepth 100000 in
theorem c_X12_findAll (l : Launch) (D : va_G) (cy : jC) (B : Nat × Nat) (v0 : Nat) (Z : jZ) (I : jI) (L : jL) (Q : jZ → jI → jL → Prop) (hZ : SH Z) (hb : jin B Z) (kv0 : jk Z v0 12) (h : f_X12_findAll B v0 Z I L Q) : jCtU l yX12_findAll w_X12_findAll B 107 2589 D cy [.ref v0] Z I L (urtV B Z Q) := by
  refine jCtU_of (cc := cX12_findAll) (maxL := 2) (ret := none) (by decide +kernel) rfl (Nat.le_of_ble_eq_true rfl) ?_
  intro G eD eY eL E EU
  subst eD; subst eY; subst eL
  have E : jE G cX12_findAll RX12 w_X12_findAll 2 none (jrm B 107 2589 Z) jRF := E
  have hx : jext Z Z := jext_rfl
  have hc : jle Z Z := jle_rfl
  show jJ G 2 0 [(0, .ref v0)] [] Z I L (jcz Z - jcz Z) (jsz Z - jsz Z)
  refine j_aload_n E dX12_findAll_0 0 rfl ?_
  refine j_iconst E (v := 0) dX12_findAll_1 (by decide) ?_
  refine j_puti E 12 48 rfl rfl (by decide) (by decide) (iw iT_12) tyX12_ok nmX12 rfl rfl (tw W_889) rfl rfl rfl kv0 dX12_findAll_2 ?_
  refine j_nmI (fun I16 eI16 => ?_)
  have h := h I16 eI16
  refine j_aload_n E dX12_findAll_5 0 rfl ?_
  refine j_iconst E (v := 0) dX12_findAll_6 (by decide) ?_
  refine j_puti E 12 49 rfl rfl (by decide) (by decide) (iw iT_12) tyX12_ok nmX12 rfl rfl (tw W_890) rfl rfl rfl kv0 dX12_findAll_7 ?_
  refine j_nmI (fun I17 eI17 => ?_)
  have h := h I17 eI17
  refine j_aload_n E dX12_findAll_10 0 rfl ?_
  refine j_iconst E (v := 0) dX12_findAll_11 (by decide) ?_
  refine j_puti E 12 50 rfl rfl (by decide) (by decide) (iw iT_12) tyX12_ok nmX12 rfl rfl (tw W_891) rfl rfl rfl kv0 dX12_findAll_12 ?_
  refine j_nmI (fun I18 eI18 => ?_)
  have h := h I18 eI18
  refine j_iconst E (v := 0) dX12_findAll_15 (by decide) ?_
  refine j_istore_n E 1 [(1, .int (0 : Int32)), (0, .ref v0)] dX12_findAll_16 rfl (by decide) rfl ?_
  obtain ⟨n19, h⟩ := h
  refine j_sub [1, 0] rfl ?_
  exact m_X12_findAll_L17 E EU  n19 v0 (0 : Int32) Z I18 L hZ hx hc hb kv0 h
set_option maxRecDepth 100000 in
def f_X12_all (B : Nat × Nat) (v0 : Nat) (Z : jZ) (I : jI) (L : jL) (Q : Int32 → jZ → jI → jL → Prop) : Prop := (∀ I1 : jI, I1 = jpI I v0 22 (0 : Int32) → (f_X12_findAll B v0 Z I1 L (fun Z3 I4 L5 => (∀ I9 : jI, I9 = jpI I4 v0 21 (0 : Int32) → (f_X12_tell v0 ((I9 v0 48).toInt64) Z3 I9 L5 (fun I12 L13 => (f_X12_tell v0 ((I12 v0 50).toInt64) Z3 I12 L13 (fun I18 L19 => Q (I18 v0 49) Z3 I18 L19))))))))
set_option maxHeartbeats 4000000 in
set_option maxRecDepth 100000 in
theorem c_X12_all (l : Launch) (D : va_G) (cy : jC) (B : Nat × Nat) (v0 : Nat) (Z : jZ) (I : jI) (L : jL) (Q : Int32 → jZ → jI → jL → Prop) (hZ : SH Z) (hb : jin B Z) (kv0 : jk Z v0 12) (h : f_X12_all B v0 Z I L Q) : jCtU l yX12_all w_X12_all B 108 2610 D cy [.ref v0] Z I L (urtI B Z Q) := by
  refine jCtU_of (cc := cX12_all) (maxL := 1) (ret := (some .int)) (by decide +kernel) rfl (Nat.le_of_ble_eq_true rfl) ?_
  intro G eD eY eL E EU
  subst eD; subst eY; subst eL
  have E : jE G cX12_all RX12 w_X12_all 1 (some .int) (jrm B 108 2610 Z) jRF := E
  have hx : jext Z Z := jext_rfl
  have hc : jle Z Z := jle_rfl
  show jJ G 1 0 [(0, .ref v0)] [] Z I L (jcz Z - jcz Z) (jsz Z - jsz Z)
  refine j_aload_n E dX12_all_0 0 rfl ?_
  refine j_iconst E (v := 0) dX12_all_1 (by decide) ?_
  refine j_puti E 12 22 rfl rfl (by decide) (by decide) (iw iT_12) tyX12_ok nmX12 rfl rfl (tw W_690) rfl rfl rfl kv0 dX12_all_2 ?_
  refine j_nmI (fun I1 eI1 => ?_)
  have h := h I1 eI1
  refine j_aload_n E dX12_all_5 0 rfl ?_
  refine ju_callV E [] [] (c_X12_findAll (gL G) (gD G) (gY G) B v0 Z I1 L _ hZ hb kv0 h) (gwV W_893 W_894 W_895 W_695 W_892) rfl ⟨rfl, fy_X12_findAll⟩ ⟨Nat.le_of_ble_eq_true rfl, Nat.le_of_ble_eq_true rfl⟩ (c := 12) rfl (by decide) kv0 rfl rfl (Nat.le_of_ble_eq_true rfl) (ju_f hc hb) dX12_all_6 (fun v2 Z3 I4 L5 q6 j7 => ?_)
  refine ju_next hc j7 ?_
  have hc := jle_trans hc j7
  obtain ⟨yZ3, hZ3, hbZ3, rfl, h⟩ := q6
  have hZ := hZ3
  have hx : jext Z Z3 := jext_trans hx yZ3
  have hb := hbZ3
  have k8 := (yZ3 _ _ kv0).1
  show jJ G 1 9 [(0, .ref v0)] [] Z3 I4 L5 (jcz Z3 - jcz Z) (jsz Z3 - jsz Z)
  refine j_aload_n E dX12_all_9 0 rfl ?_
  refine j_iconst E (v := 0) dX12_all_10 (by decide) ?_
  refine j_puti E 12 21 rfl rfl (by decide) (by decide) (iw iT_12) tyX12_ok nmX12 rfl rfl (tw W_692) rfl rfl rfl k8 dX12_all_11 ?_
  refine j_nmI (fun I9 eI9 => ?_)
  have h := h I9 eI9
  refine j_aload_n E dX12_all_14 0 rfl ?_
  refine j_aload_n E dX12_all_15 0 rfl ?_
  refine j_geti E 12 48 rfl rfl (by decide) (by decide) (iw iT_12) rfl rfl (tw W_889) k8 dX12_all_16 ?_
  refine j_i2l E dX12_all_19 ?_
  refine j_callV E [.long ((I9 v0 48).toInt64)] [] (c_X12_tell (gL G) (gD G) (gY G) v0 ((I9 v0 48).toInt64) Z3 I9 L5 _ hZ k8 h) (gwV W_820 W_821 W_822 W_695 W_819) rfl ⟨rfl, fy_X12_tell⟩ ⟨Nat.le_of_ble_eq_true rfl, Nat.le_of_ble_eq_true rfl⟩ (c := 12) rfl (by decide) k8 rfl rfl (Nat.le_of_ble_eq_true rfl) (ju_kn hb) dX12_all_20 (fun v10 Z11 I12 L13 q14 => ?_)
  obtain ⟨rfl, rfl, h⟩ := q14
  show jJ G 1 23 [(0, .ref v0)] [] Z3 I12 L13 (jcz Z3 - jcz Z) (jsz Z3 - jsz Z)
  refine j_aload_n E dX12_all_23 0 rfl ?_
  refine j_aload_n E dX12_all_24 0 rfl ?_
  refine j_geti E 12 50 rfl rfl (by decide) (by decide) (iw iT_12) rfl rfl (tw W_891) k8 dX12_all_25 ?_
  refine j_i2l E dX12_all_28 ?_
  refine j_callV E [.long ((I12 v0 50).toInt64)] [] (c_X12_tell (gL G) (gD G) (gY G) v0 ((I12 v0 50).toInt64) Z3 I12 L13 _ hZ k8 h) (gwV W_820 W_821 W_822 W_695 W_819) rfl ⟨rfl, fy_X12_tell⟩ ⟨Nat.le_of_ble_eq_true rfl, Nat.le_of_ble_eq_true rfl⟩ (c := 12) rfl (by decide) k8 rfl rfl (Nat.le_of_ble_eq_true rfl) (ju_kn hb) dX12_all_29 (fun v16 Z17 I18 L19 q20 => ?_)
  obtain ⟨rfl, rfl, h⟩ := q20
  show jJ G 1 32 [(0, .ref v0)] [] Z3 I18 L19 (jcz Z3 - jcz Z) (jsz Z3 - jsz Z)
  refine j_aload_n E dX12_all_32 0 rfl ?_
  refine j_geti E 12 49 rfl rfl (by decide) (by decide) (iw iT_12) rfl rfl (tw W_890) k8 dX12_all_33 ?_
  exact ju_ireturn E EU hc hb ⟨hx, hZ, hb, _, rfl, h⟩ dX12_all_36
set_option maxRecDepth 100000 in
def f_X12_tellMore_b62  (Z : jZ) (Q : Int32 → jI → jL → Prop)  (I : jI) (L : jL) : Prop := Q (1 : Int32) I L
set_option maxHeartbeats 4000000 in
set_option maxRecDepth 100000 in
theorem m_X12_tellMore_b62 {G : jG} {Z : jZ} {Q : Int32 → jI → jL → Prop} (E : jE G cX12_tellMore RX12 w_X12_tellMore 4 (some .int) { frames := 1, cells := 0, slots := 0, locals := 22 } (rtI Z Q)) (hZ : SH Z)   (I : jI) (L : jL)  (h : f_X12_tellMore_b62  Z Q  I L) : jJ G 4 62 [] [] Z I L 0 0 := by
  refine j_iconst E (v := 1) dX12_tellMore_62 (by decide) ?_
  refine j_goto E 67 dX12_tellMore_63 (by decide) ?_
  exact j_ireturn E ⟨rfl, _, rfl, h⟩ (Nat.zero_le _) (Nat.zero_le _) dX12_tellMore_67
set_option maxRecDepth 100000 in
def f_X12_tellMore (v0 : Nat) (v1 : Int32) (v2 : Int32) (v3 : Int32) (Z : jZ) (I : jI) (L : jL) (Q : Int32 → jI → jL → Prop) : Prop := (∀ I1 : jI, I1 = jpI I v0 21 (0 : Int32) → (f_X12_tell v0 (((I1 v0 48) - v1).toInt64) Z I1 L (fun I4 L5 => (f_X12_tell v0 (((I4 v0 49) - v2).toInt64) Z I4 L5 (fun I10 L11 => (f_X12_tell v0 (((I10 v0 50) - v3).toInt64) Z I10 L11 (fun I16 L17 => ((¬ (I16 v0 48) = v1 → f_X12_tellMore_b62  Z Q  I16 L17) ∧ ((I16 v0 48) = v1 → ((¬ (I16 v0 49) = v2 → f_X12_tellMore_b62  Z Q  I16 L17) ∧ ((I16 v0 49) = v2 → (((I16 v0 50) = v3 → Q (0 : Int32) I16 L17) ∧ (¬ ((I16 v0 50) = v3) → f_X12_tellMore_b62  Z Q  I16 L17)))))))))))))
set_option maxHeartbeats 4000000 in
set_option maxRecDepth 100000 in
theorem c_X12_tellMore (l : Launch) (D : va_G) (cy : jC) (v0 : Nat) (v1 : Int32) (v2 : Int32) (v3 : Int32) (Z : jZ) (I : jI) (L : jL) (Q : Int32 → jI → jL → Prop) (hZ : SH Z) (kv0 : jk Z v0 12) (h : f_X12_tellMore v0 v1 v2 v3 Z I L Q) : jCt l yX12_tellMore w_X12_tellMore { frames := 1, cells := 0, slots := 0, locals := 22 } D cy [.ref v0, .int v1, .int v2, .int v3] Z I L (rtI Z Q) := by
  refine jCt_of (cc := cX12_tellMore) (maxL := 4) (ret := (some .int)) (by decide +kernel) rfl (Nat.le_of_ble_eq_true rfl) ?_
  intro G eD eY eL E
  subst eD; subst eY; subst eL
  have E : jE G cX12_tellMore RX12 w_X12_tellMore 4 (some .int) { frames := 1, cells := 0, slots := 0, locals := 22 } (rtI Z Q) := E
  show jJ G 4 0 [(0, .ref v0), (1, .int v1), (2, .int v2), (3, .int v3)] [] Z I L 0 0
  refine j_aload_n E dX12_tellMore_0 0 rfl ?_
  refine j_iconst E (v := 0) dX12_tellMore_1 (by decide) ?_
  refine j_puti E 12 21 rfl rfl (by decide) (by decide) (iw iT_12) tyX12_ok nmX12 rfl rfl (tw W_692) rfl rfl rfl kv0 dX12_tellMore_2 ?_
  refine j_nmI (fun I1 eI1 => ?_)
  have h := h I1 eI1
  refine j_aload_n E dX12_tellMore_5 0 rfl ?_
  refine j_aload_n E dX12_tellMore_6 0 rfl ?_
  refine j_geti E 12 48 rfl rfl (by decide) (by decide) (iw iT_12) rfl rfl (tw W_889) kv0 dX12_tellMore_7 ?_
  refine j_iload_n E dX12_tellMore_10 1 rfl ?_
  refine j_isub E dX12_tellMore_11 ?_
  refine j_i2l E dX12_tellMore_12 ?_
  refine j_callV E [.long (((I1 v0 48) - v1).toInt64)] [] (c_X12_tell (gL G) (gD G) (gY G) v0 (((I1 v0 48) - v1).toInt64) Z I1 L _ hZ kv0 h) (gwV W_820 W_821 W_822 W_695 W_819) rfl ⟨rfl, fy_X12_tell⟩ ⟨by decide, by decide⟩ (c := 12) rfl (by decide) kv0 rfl rfl (Nat.le_of_ble_eq_true rfl) ⟨Nat.zero_le _, Nat.zero_le _⟩ dX12_tellMore_13 (fun v2 Z3 I4 L5 q6 => ?_)
  obtain ⟨rfl, rfl, h⟩ := q6
  show jJ G 4 16 [(0, .ref v0), (1, .int v1), (2, .int v2), (3, .int v3)] [] Z I4 L5 0 0
  refine j_aload_n E dX12_tellMore_16 0 rfl ?_
  refine j_aload_n E dX12_tellMore_17 0 rfl ?_
  refine j_geti E 12 49 rfl rfl (by decide) (by decide) (iw iT_12) rfl rfl (tw W_890) kv0 dX12_tellMore_18 ?_
  refine j_iload_n E dX12_tellMore_21 2 rfl ?_
  refine j_isub E dX12_tellMore_22 ?_
  refine j_i2l E dX12_tellMore_23 ?_
  refine j_callV E [.long (((I4 v0 49) - v2).toInt64)] [] (c_X12_tell (gL G) (gD G) (gY G) v0 (((I4 v0 49) - v2).toInt64) Z I4 L5 _ hZ kv0 h) (gwV W_820 W_821 W_822 W_695 W_819) rfl ⟨rfl, fy_X12_tell⟩ ⟨by decide, by decide⟩ (c := 12) rfl (by decide) kv0 rfl rfl (Nat.le_of_ble_eq_true rfl) ⟨Nat.zero_le _, Nat.zero_le _⟩ dX12_tellMore_24 (fun v8 Z9 I10 L11 q12 => ?_)
  obtain ⟨rfl, rfl, h⟩ := q12
  show jJ G 4 27 [(0, .ref v0), (1, .int v1), (2, .int v2), (3, .int v3)] [] Z I10 L11 0 0
  refine j_aload_n E dX12_tellMore_27 0 rfl ?_
  refine j_aload_n E dX12_tellMore_28 0 rfl ?_
  refine j_geti E 12 50 rfl rfl (by decide) (by decide) (iw iT_12) rfl rfl (tw W_891) kv0 dX12_tellMore_29 ?_
  refine j_iload_n E dX12_tellMore_32 3 rfl ?_
  refine j_isub E dX12_tellMore_33 ?_
  refine j_i2l E dX12_tellMore_34 ?_
  refine j_callV E [.long (((I10 v0 50) - v3).toInt64)] [] (c_X12_tell (gL G) (gD G) (gY G) v0 (((I10 v0 50) - v3).toInt64) Z I10 L11 _ hZ kv0 h) (gwV W_820 W_821 W_822 W_695 W_819) rfl ⟨rfl, fy_X12_tell⟩ ⟨by decide, by decide⟩ (c := 12) rfl (by decide) kv0 rfl rfl (Nat.le_of_ble_eq_true rfl) ⟨Nat.zero_le _, Nat.zero_le _⟩ dX12_tellMore_35 (fun v14 Z15 I16 L17 q18 => ?_)
  obtain ⟨rfl, rfl, h⟩ := q18
  show jJ G 4 38 [(0, .ref v0), (1, .int v1), (2, .int v2), (3, .int v3)] [] Z I16 L17 0 0
  refine j_aload_n E dX12_tellMore_38 0 rfl ?_
  refine j_geti E 12 48 rfl rfl (by decide) (by decide) (iw iT_12) rfl rfl (tw W_889) kv0 dX12_tellMore_39 ?_
  refine j_iload_n E dX12_tellMore_42 1 rfl ?_
  refine j_icmp_ne E 62 dX12_tellMore_43 (by decide) (fun c20 => ?_) (fun c20 => ?_)
  · have h := h.1 c20
    refine j_sub [] rfl ?_
    exact m_X12_tellMore_b62 E hZ   I16 L17  h
  · have h := h.2 c20
    refine j_aload_n E dX12_tellMore_46 0 rfl ?_
    refine j_geti E 12 49 rfl rfl (by decide) (by decide) (iw iT_12) rfl rfl (tw W_890) kv0 dX12_tellMore_47 ?_
    refine j_iload_n E dX12_tellMore_50 2 rfl ?_
    refine j_icmp_ne E 62 dX12_tellMore_51 (by decide) (fun c21 => ?_) (fun c21 => ?_)
    · have h := h.1 c21
      refine j_sub [] rfl ?_
      exact m_X12_tellMore_b62 E hZ   I16 L17  h
    · have h := h.2 c21
      refine j_aload_n E dX12_tellMore_54 0 rfl ?_
      refine j_geti E 12 50 rfl rfl (by decide) (by decide) (iw iT_12) rfl rfl (tw W_891) kv0 dX12_tellMore_55 ?_
      refine j_iload_n E dX12_tellMore_58 3 rfl ?_
      refine j_icmp_eq E 66 dX12_tellMore_59 (by decide) (fun c22 => ?_) (fun c22 => ?_)
      · have h := h.1 c22
        refine j_iconst E (v := 0) dX12_tellMore_66 (by decide) ?_
        exact j_ireturn E ⟨rfl, _, rfl, h⟩ (Nat.zero_le _) (Nat.zero_le _) dX12_tellMore_67
      · have h := h.2 c22
        refine j_sub [] rfl ?_
        exact m_X12_tellMore_b62 E hZ   I16 L17  h
set_option maxRecDepth 100000 in
def f_X12_whole (B : Nat × Nat) (v0 : Nat) (v1 : Int32) (Z : jZ) (I : jI) (L : jL) (Q : Int32 → jZ → jI → jL → Prop) : Prop := (∀ I1 : jI, I1 = jpI I v0 22 (0 : Int32) → (f_X12_isStep v0 v1 Z I1 L (fun r8 I4 L5 => ((¬ r8 = 0 → (f_X12_findAll B v0 Z I4 L5 (fun Z11 I12 L13 => (∀ x17 : Int32, x17 = (I12 v0 48) → (∀ x18 : Int32, x18 = (I12 v0 49) → (∀ x19 : Int32, x19 = (I12 v0 50) → (∀ b20 : Nat, jr Z11 v0 2 = some b20 → (vp_in v1 24 ∧ (∀ x22 : Int32, x22 = (I12 b20 v1.toNatClampNeg) → (∀ b23 : Nat, jr Z11 v0 2 = some b23 → (vp_in v1 24 ∧ (∀ I25 : jI, I25 = jpI I12 b23 v1.toNatClampNeg (9 : Int32) → (f_X12_findAll B v0 Z11 I25 L13 (fun Z27 I28 L29 => (∀ b33 : Nat, jr Z27 v0 2 = some b33 → (vp_in v1 24 ∧ (∀ I35 : jI, I35 = jpI I28 b33 v1.toNatClampNeg x22 → (f_X12_tellMore v0 x17 x18 x19 Z27 I35 L29 (fun r42 I38 L39 => Q r42 Z27 I38 L39))))))))))))))))))) ∧ (r8 = 0 → Q (-1 : Int32) Z I4 L5)))))
set_option maxHeartbeats 4000000 in
set_option maxRecDepth 100000 in
theorem c_X12_whole (l : Launch) (D : va_G) (cy : jC) (B : Nat × Nat) (v0 : Nat) (v1 : Int32) (Z : jZ) (I : jI) (L : jL) (Q : Int32 → jZ → jI → jL → Prop) (hZ : SH Z) (hb : jin B Z) (kv0 : jk Z v0 12) (h : f_X12_whole B v0 v1 Z I L Q) : jCtU l yX12_whole w_X12_whole B 108 2610 D cy [.ref v0, .int v1] Z I L (urtI B Z Q) := by
  refine jCtU_of (cc := cX12_whole) (maxL := 6) (ret := (some .int)) (by decide +kernel) rfl (Nat.le_of_ble_eq_true rfl) ?_
  intro G eD eY eL E EU
  subst eD; subst eY; subst eL
  have E : jE G cX12_whole RX12 w_X12_whole 6 (some .int) (jrm B 108 2610 Z) jRF := E
  have hx : jext Z Z := jext_rfl
  have hc : jle Z Z := jle_rfl
  show jJ G 6 0 [(0, .ref v0), (1, .int v1)] [] Z I L (jcz Z - jcz Z) (jsz Z - jsz Z)
  refine j_aload_n E dX12_whole_0 0 rfl ?_
  refine j_iconst E (v := 0) dX12_whole_1 (by decide) ?_
  refine j_puti E 12 22 rfl rfl (by decide) (by decide) (iw iT_12) tyX12_ok nmX12 rfl rfl (tw W_690) rfl rfl rfl kv0 dX12_whole_2 ?_
  refine j_nmI (fun I1 eI1 => ?_)
  have h := h I1 eI1
  refine j_aload_n E dX12_whole_5 0 rfl ?_
  refine j_iload_n E dX12_whole_6 1 rfl ?_
  refine j_callV E [.int v1] [] (c_X12_isStep (gL G) (gD G) (gY G) v0 v1 Z I1 L _ hZ kv0 h) (gwV W_790 W_791 W_792 W_695 W_789) rfl ⟨rfl, fy_X12_isStep⟩ ⟨Nat.le_of_ble_eq_true rfl, Nat.le_of_ble_eq_true rfl⟩ (c := 12) rfl (by decide) kv0 rfl rfl (Nat.le_of_ble_eq_true rfl) (ju_kn hb) dX12_whole_7 (fun v2 Z3 I4 L5 q6 => ?_)
  obtain ⟨rfl, r8, rfl, zr8, h⟩ := q6
  show jJ G 6 10 [(0, .ref v0), (1, .int v1)] [.int r8] Z I4 L5 (jcz Z - jcz Z) (jsz Z - jsz Z)
  refine j_if_ne E 15 dX12_whole_10 (by decide) (fun c9 => ?_) (fun c9 => ?_)
  · have h := h.1 c9
    refine j_aload_n E dX12_whole_15 0 rfl ?_
    refine ju_callV E [] [] (c_X12_findAll (gL G) (gD G) (gY G) B v0 Z I4 L5 _ hZ hb kv0 h) (gwV W_893 W_894 W_895 W_695 W_892) rfl ⟨rfl, fy_X12_findAll⟩ ⟨Nat.le_of_ble_eq_true rfl, Nat.le_of_ble_eq_true rfl⟩ (c := 12) rfl (by decide) kv0 rfl rfl (Nat.le_of_ble_eq_true rfl) (ju_f hc hb) dX12_whole_16 (fun v10 Z11 I12 L13 q14 j15 => ?_)
    refine ju_next hc j15 ?_
    have hc := jle_trans hc j15
    obtain ⟨yZ11, hZ11, hbZ11, rfl, h⟩ := q14
    have hZ := hZ11
    have hx : jext Z Z11 := jext_trans hx yZ11
    have hb := hbZ11
    have k16 := (yZ11 _ _ kv0).1
    show jJ G 6 19 [(0, .ref v0), (1, .int v1)] [] Z11 I12 L13 (jcz Z11 - jcz Z) (jsz Z11 - jsz Z)
    refine j_aload_n E dX12_whole_19 0 rfl ?_
    refine j_geti E 12 48 rfl rfl (by decide) (by decide) (iw iT_12) rfl rfl (tw W_889) k16 dX12_whole_20 ?_
    refine j_topi (fun x17 ex17 => ?_)
    have h := h x17 ex17
    refine j_istore_n E 2 [(2, .int x17), (0, .ref v0), (1, .int v1)] dX12_whole_23 rfl (by decide) rfl ?_
    refine j_aload_n E dX12_whole_24 1 rfl ?_
    refine j_geti E 12 49 rfl rfl (by decide) (by decide) (iw iT_12) rfl rfl (tw W_890) k16 dX12_whole_25 ?_
    refine j_topi (fun x18 ex18 => ?_)
    have h := h x18 ex18
    refine j_istore_n E 3 [(3, .int x18), (2, .int x17), (0, .ref v0), (1, .int v1)] dX12_whole_28 rfl (by decide) rfl ?_
    refine j_aload_n E dX12_whole_29 2 rfl ?_
    refine j_geti E 12 50 rfl rfl (by decide) (by decide) (iw iT_12) rfl rfl (tw W_891) k16 dX12_whole_30 ?_
    refine j_topi (fun x19 ex19 => ?_)
    have h := h x19 ex19
    refine j_istore E 4 [(4, .int x19), (3, .int x18), (2, .int x17), (0, .ref v0), (1, .int v1)] dX12_whole_33 (by decide) rfl ?_
    refine j_aload_n E dX12_whole_35 3 rfl ?_
    obtain ⟨b20, eb20, kb20, lb20⟩ := sh_f hZ k16 (j := 2) (k := 14) (m := 24) rfl
    have h := h b20 eb20
    refine j_getr E 12 2 rfl rfl (by decide) (by decide) (iw iT_12) rfl rfl (tw W_742) k16 eb20 dX12_whole_36 ?_
    refine j_iload_n E dX12_whole_39 4 rfl ?_
    obtain ⟨o21, h⟩ := h
    refine j_iald E kb20 (by rw [lb20]; exact o21) dX12_whole_40 ?_
    refine j_topi (fun x22 ex22 => ?_)
    have h := h x22 ex22
    refine j_istore E 5 [(5, .int x22), (4, .int x19), (3, .int x18), (2, .int x17), (0, .ref v0), (1, .int v1)] dX12_whole_41 (by decide) rfl ?_
    refine j_aload_n E dX12_whole_43 4 rfl ?_
    obtain ⟨b23, eb23, kb23, lb23⟩ := sh_f hZ k16 (j := 2) (k := 14) (m := 24) rfl
    have h := h b23 eb23
    refine j_getr E 12 2 rfl rfl (by decide) (by decide) (iw iT_12) rfl rfl (tw W_742) k16 eb23 dX12_whole_44 ?_
    refine j_iload_n E dX12_whole_47 5 rfl ?_
    refine j_bipush E (v := 9) dX12_whole_48 (by decide) ?_
    obtain ⟨o24, h⟩ := h
    refine j_iast E kb23 (by rw [lb23]; exact o24) dX12_whole_50 ?_
    refine j_nmI (fun I25 eI25 => ?_)
    have h := h I25 eI25
    refine j_aload_n E dX12_whole_51 4 rfl ?_
    refine ju_callV E [] [] (c_X12_findAll (gL G) (gD G) (gY G) B v0 Z11 I25 L13 _ hZ hb k16 h) (gwV W_893 W_894 W_895 W_695 W_892) rfl ⟨rfl, fy_X12_findAll⟩ ⟨Nat.le_of_ble_eq_true rfl, Nat.le_of_ble_eq_true rfl⟩ (c := 12) rfl (by decide) k16 rfl rfl (Nat.le_of_ble_eq_true rfl) (ju_f hc hb) dX12_whole_52 (fun v26 Z27 I28 L29 q30 j31 => ?_)
    refine ju_next hc j31 ?_
    have hc := jle_trans hc j31
    obtain ⟨yZ27, hZ27, hbZ27, rfl, h⟩ := q30
    have hZ := hZ27
    have hx : jext Z Z27 := jext_trans hx yZ27
    have hb := hbZ27
    have k32 := (yZ27 _ _ k16).1
    show jJ G 6 55 [(5, .int x22), (4, .int x19), (3, .int x18), (2, .int x17), (0, .ref v0), (1, .int v1)] [] Z27 I28 L29 (jcz Z27 - jcz Z) (jsz Z27 - jsz Z)
    refine j_aload_n E dX12_whole_55 4 rfl ?_
    obtain ⟨b33, eb33, kb33, lb33⟩ := sh_f hZ k32 (j := 2) (k := 14) (m := 24) rfl
    have h := h b33 eb33
    refine j_getr E 12 2 rfl rfl (by decide) (by decide) (iw iT_12) rfl rfl (tw W_742) k32 eb33 dX12_whole_56 ?_
    refine j_iload_n E dX12_whole_59 5 rfl ?_
    refine j_iload E dX12_whole_60 0 rfl ?_
    obtain ⟨o34, h⟩ := h
    refine j_iast E kb33 (by rw [lb33]; exact o34) dX12_whole_62 ?_
    refine j_nmI (fun I35 eI35 => ?_)
    have h := h I35 eI35
    refine j_aload_n E dX12_whole_63 4 rfl ?_
    refine j_iload_n E dX12_whole_64 3 rfl ?_
    refine j_iload_n E dX12_whole_65 2 rfl ?_
    refine j_iload E dX12_whole_66 1 rfl ?_
    refine j_callV E [.int x17, .int x18, .int x19] [] (c_X12_tellMore (gL G) (gD G) (gY G) v0 x17 x18 x19 Z27 I35 L29 _ hZ k32 h) (gwV W_897 W_898 W_899 W_695 W_896) rfl ⟨rfl, fy_X12_tellMore⟩ ⟨Nat.le_of_ble_eq_true rfl, Nat.le_of_ble_eq_true rfl⟩ (c := 12) rfl (by decide) k32 rfl rfl (Nat.le_of_ble_eq_true rfl) (ju_kn hb) dX12_whole_68 (fun v36 Z37 I38 L39 q40 => ?_)
    obtain ⟨rfl, r42, rfl, h⟩ := q40
    show jJ G 6 71 [(5, .int x22), (4, .int x19), (3, .int x18), (2, .int x17), (0, .ref v0), (1, .int v1)] [.int r42] Z27 I38 L39 (jcz Z27 - jcz Z) (jsz Z27 - jsz Z)
    exact ju_ireturn E EU hc hb ⟨hx, hZ, hb, _, rfl, h⟩ dX12_whole_71
  · have h := h.2 c9
    refine j_iconst E (v := -1) dX12_whole_13 (by decide) ?_
    exact ju_ireturn E EU hc hb ⟨hx, hZ, hb, _, rfl, h⟩ dX12_whole_14
set_option maxRecDepth 100000 in
def f_X12_shut (B : Nat × Nat) (v0 : Nat) (v1 : Int32) (Z : jZ) (I : jI) (L : jL) (Q : Int32 → jZ → jI → jL → Prop) : Prop := (∀ I1 : jI, I1 = jpI I v0 22 (0 : Int32) → (f_X12_isStep v0 v1 Z I1 L (fun r8 I4 L5 => ((¬ r8 = 0 → (f_X12_findAll B v0 Z I4 L5 (fun Z11 I12 L13 => (∀ x17 : Int32, x17 = (I12 v0 48) → (∀ x18 : Int32, x18 = (I12 v0 49) → (∀ x19 : Int32, x19 = (I12 v0 50) → (∀ I20 : jI, I20 = jpI I12 v0 39 v1 → (f_X12_findAll B v0 Z11 I20 L13 (fun Z22 I23 L24 => (∀ I28 : jI, I28 = jpI I23 v0 39 (-1 : Int32) → (f_X12_tellMore v0 x17 x18 x19 Z22 I28 L24 (fun r35 I31 L32 => Q r35 Z22 I31 L32)))))))))))) ∧ (r8 = 0 → Q (-1 : Int32) Z I4 L5)))))
set_option maxHeartbeats 4000000 in
set_option maxRecDepth 100000 in
theorem c_X12_shut (l : Launch) (D : va_G) (cy : jC) (B : Nat × Nat) (v0 : Nat) (v1 : Int32) (Z : jZ) (I : jI) (L : jL) (Q : Int32 → jZ → jI → jL → Prop) (hZ : SH Z) (hb : jin B Z) (kv0 : jk Z v0 12) (h : f_X12_shut B v0 v1 Z I L Q) : jCtU l yX12_shut w_X12_shut B 108 2610 D cy [.ref v0, .int v1] Z I L (urtI B Z Q) := by
  refine jCtU_of (cc := cX12_shut) (maxL := 5) (ret := (some .int)) (by decide +kernel) rfl (Nat.le_of_ble_eq_true rfl) ?_
  intro G eD eY eL E EU
  subst eD; subst eY; subst eL
  have E : jE G cX12_shut RX12 w_X12_shut 5 (some .int) (jrm B 108 2610 Z) jRF := E
  have hx : jext Z Z := jext_rfl
  have hc : jle Z Z := jle_rfl
  show jJ G 5 0 [(0, .ref v0), (1, .int v1)] [] Z I L (jcz Z - jcz Z) (jsz Z - jsz Z)
  refine j_aload_n E dX12_shut_0 0 rfl ?_
  refine j_iconst E (v := 0) dX12_shut_1 (by decide) ?_
  refine j_puti E 12 22 rfl rfl (by decide) (by decide) (iw iT_12) tyX12_ok nmX12 rfl rfl (tw W_690) rfl rfl rfl kv0 dX12_shut_2 ?_
  refine j_nmI (fun I1 eI1 => ?_)
  have h := h I1 eI1
  refine j_aload_n E dX12_shut_5 0 rfl ?_
  refine j_iload_n E dX12_shut_6 1 rfl ?_
  refine j_callV E [.int v1] [] (c_X12_isStep (gL G) (gD G) (gY G) v0 v1 Z I1 L _ hZ kv0 h) (gwV W_790 W_791 W_792 W_695 W_789) rfl ⟨rfl, fy_X12_isStep⟩ ⟨Nat.le_of_ble_eq_true rfl, Nat.le_of_ble_eq_true rfl⟩ (c := 12) rfl (by decide) kv0 rfl rfl (Nat.le_of_ble_eq_true rfl) (ju_kn hb) dX12_shut_7 (fun v2 Z3 I4 L5 q6 => ?_)
  obtain ⟨rfl, r8, rfl, zr8, h⟩ := q6
  show jJ G 5 10 [(0, .ref v0), (1, .int v1)] [.int r8] Z I4 L5 (jcz Z - jcz Z) (jsz Z - jsz Z)
  refine j_if_ne E 15 dX12_shut_10 (by decide) (fun c9 => ?_) (fun c9 => ?_)
  · have h := h.1 c9
    refine j_aload_n E dX12_shut_15 0 rfl ?_
    refine ju_callV E [] [] (c_X12_findAll (gL G) (gD G) (gY G) B v0 Z I4 L5 _ hZ hb kv0 h) (gwV W_893 W_894 W_895 W_695 W_892) rfl ⟨rfl, fy_X12_findAll⟩ ⟨Nat.le_of_ble_eq_true rfl, Nat.le_of_ble_eq_true rfl⟩ (c := 12) rfl (by decide) kv0 rfl rfl (Nat.le_of_ble_eq_true rfl) (ju_f hc hb) dX12_shut_16 (fun v10 Z11 I12 L13 q14 j15 => ?_)
    refine ju_next hc j15 ?_
    have hc := jle_trans hc j15
    obtain ⟨yZ11, hZ11, hbZ11, rfl, h⟩ := q14
    have hZ := hZ11
    have hx : jext Z Z11 := jext_trans hx yZ11
    have hb := hbZ11
    have k16 := (yZ11 _ _ kv0).1
    show jJ G 5 19 [(0, .ref v0), (1, .int v1)] [] Z11 I12 L13 (jcz Z11 - jcz Z) (jsz Z11 - jsz Z)
    refine j_aload_n E dX12_shut_19 0 rfl ?_
    refine j_geti E 12 48 rfl rfl (by decide) (by decide) (iw iT_12) rfl rfl (tw W_889) k16 dX12_shut_20 ?_
    refine j_topi (fun x17 ex17 => ?_)
    have h := h x17 ex17
    refine j_istore_n E 2 [(2, .int x17), (0, .ref v0), (1, .int v1)] dX12_shut_23 rfl (by decide) rfl ?_
    refine j_aload_n E dX12_shut_24 1 rfl ?_
    refine j_geti E 12 49 rfl rfl (by decide) (by decide) (iw iT_12) rfl rfl (tw W_890) k16 dX12_shut_25 ?_
    refine j_topi (fun x18 ex18 => ?_)
    have h := h x18 ex18
    refine j_istore_n E 3 [(3, .int x18), (2, .int x17), (0, .ref v0), (1, .int v1)] dX12_shut_28 rfl (by decide) rfl ?_
    refine j_aload_n E dX12_shut_29 2 rfl ?_
    refine j_geti E 12 50 rfl rfl (by decide) (by decide) (iw iT_12) rfl rfl (tw W_891) k16 dX12_shut_30 ?_
    refine j_topi (fun x19 ex19 => ?_)
    have h := h x19 ex19
    refine j_istore E 4 [(4, .int x19), (3, .int x18), (2, .int x17), (0, .ref v0), (1, .int v1)] dX12_shut_33 (by decide) rfl ?_
    refine j_aload_n E dX12_shut_35 3 rfl ?_
    refine j_iload_n E dX12_shut_36 4 rfl ?_
    refine j_puti E 12 39 rfl rfl (by decide) (by decide) (iw iT_12) tyX12_ok nmX12 rfl rfl (tw W_844) rfl rfl rfl k16 dX12_shut_37 ?_
    refine j_nmI (fun I20 eI20 => ?_)
    have h := h I20 eI20
    refine j_aload_n E dX12_shut_40 3 rfl ?_
    refine ju_callV E [] [] (c_X12_findAll (gL G) (gD G) (gY G) B v0 Z11 I20 L13 _ hZ hb k16 h) (gwV W_893 W_894 W_895 W_695 W_892) rfl ⟨rfl, fy_X12_findAll⟩ ⟨Nat.le_of_ble_eq_true rfl, Nat.le_of_ble_eq_true rfl⟩ (c := 12) rfl (by decide) k16 rfl rfl (Nat.le_of_ble_eq_true rfl) (ju_f hc hb) dX12_shut_41 (fun v21 Z22 I23 L24 q25 j26 => ?_)
    refine ju_next hc j26 ?_
    have hc := jle_trans hc j26
    obtain ⟨yZ22, hZ22, hbZ22, rfl, h⟩ := q25
    have hZ := hZ22
    have hx : jext Z Z22 := jext_trans hx yZ22
    have hb := hbZ22
    have k27 := (yZ22 _ _ k16).1
    show jJ G 5 44 [(4, .int x19), (3, .int x18), (2, .int x17), (0, .ref v0), (1, .int v1)] [] Z22 I23 L24 (jcz Z22 - jcz Z) (jsz Z22 - jsz Z)
    refine j_aload_n E dX12_shut_44 3 rfl ?_
    refine j_iconst E (v := -1) dX12_shut_45 (by decide) ?_
    refine j_puti E 12 39 rfl rfl (by decide) (by decide) (iw iT_12) tyX12_ok nmX12 rfl rfl (tw W_844) rfl rfl rfl k27 dX12_shut_46 ?_
    refine j_nmI (fun I28 eI28 => ?_)
    have h := h I28 eI28
    refine j_aload_n E dX12_shut_49 3 rfl ?_
    refine j_iload_n E dX12_shut_50 2 rfl ?_
    refine j_iload_n E dX12_shut_51 1 rfl ?_
    refine j_iload E dX12_shut_52 0 rfl ?_
    refine j_callV E [.int x17, .int x18, .int x19] [] (c_X12_tellMore (gL G) (gD G) (gY G) v0 x17 x18 x19 Z22 I28 L24 _ hZ k27 h) (gwV W_897 W_898 W_899 W_695 W_896) rfl ⟨rfl, fy_X12_tellMore⟩ ⟨Nat.le_of_ble_eq_true rfl, Nat.le_of_ble_eq_true rfl⟩ (c := 12) rfl (by decide) k27 rfl rfl (Nat.le_of_ble_eq_true rfl) (ju_kn hb) dX12_shut_54 (fun v29 Z30 I31 L32 q33 => ?_)
    obtain ⟨rfl, r35, rfl, h⟩ := q33
    show jJ G 5 57 [(4, .int x19), (3, .int x18), (2, .int x17), (0, .ref v0), (1, .int v1)] [.int r35] Z22 I31 L32 (jcz Z22 - jcz Z) (jsz Z22 - jsz Z)
    exact ju_ireturn E EU hc hb ⟨hx, hZ, hb, _, rfl, h⟩ dX12_shut_57
  · have h := h.2 c9
    refine j_iconst E (v := -1) dX12_shut_13 (by decide) ?_
    exact ju_ireturn E EU hc hb ⟨hx, hZ, hb, _, rfl, h⟩ dX12_shut_14
