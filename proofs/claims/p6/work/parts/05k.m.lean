set_option maxRecDepth 100000 in
def f_X12_mends (v0 : Nat) (v1 : Int32) (Z : jZ) (I : jI) (L : jL) (Q : Int32 → jI → jL → Prop) : Prop := (∀ I1 : jI, I1 = jpI I v0 22 (0 : Int32) → (f_X12_isStep v0 v1 Z I1 L (fun r8 I4 L5 => ((¬ r8 = 0 → (∀ b10 : Nat, jr Z v0 2 = some b10 → (vp_in v1 24 ∧ (∀ b12 : Nat, jr Z v0 1 = some b12 → (vp_in v1 24 ∧ (∀ x14 : Int32, x14 = (((9 : Int32) - (I4 b10 v1.toNatClampNeg)) * (I4 b12 v1.toNatClampNeg)) → (f_X12_earn v0 v1 x14 (-1 : Int32) Z I4 L5 (fun I17 L18 => (∀ b21 : Nat, jr Z v0 2 = some b21 → (vp_in v1 24 ∧ (∀ I23 : jI, I23 = jpI I17 b21 v1.toNatClampNeg (9 : Int32) → Q x14 I23 L18))))))))))) ∧ (r8 = 0 → Q (-1 : Int32) I4 L5)))))
set_option maxHeartbeats 4000000 in
set_option maxRecDepth 100000 in
theorem c_X12_mends (l : Launch) (D : va_G) (cy : jC) (v0 : Nat) (v1 : Int32) (Z : jZ) (I : jI) (L : jL) (Q : Int32 → jI → jL → Prop) (hZ : SH Z) (kv0 : jk Z v0 12) (h : f_X12_mends v0 v1 Z I L Q) : jCt l yX12_mends w_X12_mends { frames := 2, cells := 0, slots := 0, locals := 53 } D cy [.ref v0, .int v1] Z I L (rtI Z Q) := by
  refine jCt_of (cc := cX12_mends) (maxL := 3) (ret := (some .int)) (by decide +kernel) rfl (Nat.le_of_ble_eq_true rfl) ?_
  intro G eD eY eL E
  subst eD; subst eY; subst eL
  have E : jE G cX12_mends RX12 w_X12_mends 3 (some .int) { frames := 2, cells := 0, slots := 0, locals := 53 } (rtI Z Q) := E
  show jJ G 3 0 [(0, .ref v0), (1, .int v1)] [] Z I L 0 0
  refine j_aload_n E dX12_mends_0 0 rfl ?_
  refine j_iconst E (v := 0) dX12_mends_1 (by decide) ?_
  refine j_puti E 12 22 rfl rfl (by decide) (by decide) (iw iT_12) tyX12_ok nmX12 rfl rfl (tw W_690) rfl rfl rfl kv0 dX12_mends_2 ?_
  refine j_nmI (fun I1 eI1 => ?_)
  have h := h I1 eI1
  refine j_aload_n E dX12_mends_5 0 rfl ?_
  refine j_iload_n E dX12_mends_6 1 rfl ?_
  refine j_callV E [.int v1] [] (c_X12_isStep (gL G) (gD G) (gY G) v0 v1 Z I1 L _ hZ kv0 h) (gwV W_790 W_791 W_792 W_695 W_789) rfl ⟨rfl, fy_X12_isStep⟩ ⟨by decide, by decide⟩ (c := 12) rfl (by decide) kv0 rfl rfl (Nat.le_of_ble_eq_true rfl) ⟨Nat.zero_le _, Nat.zero_le _⟩ dX12_mends_7 (fun v2 Z3 I4 L5 q6 => ?_)
  obtain ⟨rfl, r8, rfl, zr8, h⟩ := q6
  show jJ G 3 10 [(0, .ref v0), (1, .int v1)] [.int r8] Z I4 L5 0 0
  refine j_if_ne E 15 dX12_mends_10 (by decide) (fun c9 => ?_) (fun c9 => ?_)
  · have h := h.1 c9
    refine j_bipush E (v := 9) dX12_mends_15 (by decide) ?_
    refine j_aload_n E dX12_mends_17 0 rfl ?_
    obtain ⟨b10, eb10, kb10, lb10⟩ := sh_f hZ kv0 (j := 2) (k := 14) (m := 24) rfl
    have h := h b10 eb10
    refine j_getr E 12 2 rfl rfl (by decide) (by decide) (iw iT_12) rfl rfl (tw W_742) kv0 eb10 dX12_mends_18 ?_
    refine j_iload_n E dX12_mends_21 1 rfl ?_
    obtain ⟨o11, h⟩ := h
    refine j_iald E kb10 (by rw [lb10]; exact o11) dX12_mends_22 ?_
    refine j_isub E dX12_mends_23 ?_
    refine j_aload_n E dX12_mends_24 0 rfl ?_
    obtain ⟨b12, eb12, kb12, lb12⟩ := sh_f hZ kv0 (j := 1) (k := 14) (m := 24) rfl
    have h := h b12 eb12
    refine j_getr E 12 1 rfl rfl (by decide) (by decide) (iw iT_12) rfl rfl (tw W_741) kv0 eb12 dX12_mends_25 ?_
    refine j_iload_n E dX12_mends_28 1 rfl ?_
    obtain ⟨o13, h⟩ := h
    refine j_iald E kb12 (by rw [lb12]; exact o13) dX12_mends_29 ?_
    refine j_imul E dX12_mends_30 ?_
    refine j_topi (fun x14 ex14 => ?_)
    have h := h x14 ex14
    refine j_istore_n E 2 [(2, .int x14), (0, .ref v0), (1, .int v1)] dX12_mends_31 rfl (by decide) rfl ?_
    refine j_aload_n E dX12_mends_32 1 rfl ?_
    refine j_iload_n E dX12_mends_33 2 rfl ?_
    refine j_iload_n E dX12_mends_34 0 rfl ?_
    refine j_iconst E (v := -1) dX12_mends_35 (by decide) ?_
    refine j_callV E [.int v1, .int x14, .int (-1 : Int32)] [] (c_X12_earn (gL G) (gD G) (gY G) v0 v1 x14 (-1 : Int32) Z I4 L5 _ hZ kv0 h) (gwV W_836 W_837 W_838 W_695 W_835) rfl ⟨rfl, fy_X12_earn⟩ ⟨by decide, by decide⟩ (c := 12) rfl (by decide) kv0 rfl rfl (Nat.le_of_ble_eq_true rfl) ⟨Nat.zero_le _, Nat.zero_le _⟩ dX12_mends_36 (fun v15 Z16 I17 L18 q19 => ?_)
    obtain ⟨rfl, rfl, h⟩ := q19
    show jJ G 3 39 [(2, .int x14), (0, .ref v0), (1, .int v1)] [] Z I17 L18 0 0
    refine j_aload_n E dX12_mends_39 1 rfl ?_
    obtain ⟨b21, eb21, kb21, lb21⟩ := sh_f hZ kv0 (j := 2) (k := 14) (m := 24) rfl
    have h := h b21 eb21
    refine j_getr E 12 2 rfl rfl (by decide) (by decide) (iw iT_12) rfl rfl (tw W_742) kv0 eb21 dX12_mends_40 ?_
    refine j_iload_n E dX12_mends_43 2 rfl ?_
    refine j_bipush E (v := 9) dX12_mends_44 (by decide) ?_
    obtain ⟨o22, h⟩ := h
    refine j_iast E kb21 (by rw [lb21]; exact o22) dX12_mends_46 ?_
    refine j_nmI (fun I23 eI23 => ?_)
    have h := h I23 eI23
    refine j_iload_n E dX12_mends_47 0 rfl ?_
    exact j_ireturn E ⟨rfl, _, rfl, h⟩ (Nat.zero_le _) (Nat.zero_le _) dX12_mends_48
  · have h := h.2 c9
    refine j_iconst E (v := -1) dX12_mends_13 (by decide) ?_
    exact j_ireturn E ⟨rfl, _, rfl, h⟩ (Nat.zero_le _) (Nat.zero_le _) dX12_mends_14
set_option maxRecDepth 100000 in
def f_X12_toll_L54 (B : Nat × Nat)  (Q : Int32 → jZ → jI → jL → Prop) : Nat → Nat → Int32 → Int32 → Int32 → Int32 → jZ → jI → jL → Prop
  | 0 => fun _ _ _ _ _ _ _ _ => False
  | n + 1 => fun v0 v1 v2 v3 v4 Z I L => (((I v0 48) = v3 → (∀ b2 : Nat, jr Z v0 3 = some b2 → (vp_in v1 24 ∧ (∀ I4 : jI, I4 = jpI I b2 v1.toNatClampNeg v2 → (∀ I5 : jI, I5 = jpI I4 v0 21 (0 : Int32) → (f_X12_tell v0 (v3.toInt64) Z I5 L (fun I8 L9 => Q v4 Z I8 L9))))))) ∧ (¬ ((I v0 48) = v3) → (∀ x12 : Int32, x12 = v4 + (-1) → (∀ b13 : Nat, jr Z v0 3 = some b13 → (vp_in v1 24 ∧ (∀ I15 : jI, I15 = jpI I b13 v1.toNatClampNeg x12 → (f_X12_findAll B v0 Z I15 L (fun Z17 I18 L19 => (f_X12_toll_L54 B Q n) v0 v1 v2 v3 x12 Z17 I18 L19))))))))
set_option maxHeartbeats 4000000 in
set_option maxRecDepth 100000 in
theorem m_X12_toll_L54 {G : jG} {Z0 : jZ} {B : Nat × Nat} {Q : Int32 → jZ → jI → jL → Prop} (E : jE G cX12_toll RX12 w_X12_toll 5 (some .int) (jrm B 108 2610 Z0) jRF) (EU : jEU G B Z0 (urtI B Z0 Q))  : ∀ (n : Nat) (v0 : Nat) (v1 : Int32) (v2 : Int32) (v3 : Int32) (v4 : Int32) (Z : jZ) (I : jI) (L : jL), SH Z → jext Z0 Z → jle Z0 Z → jin B Z → jk Z v0 12 → f_X12_toll_L54 B  Q n v0 v1 v2 v3 v4 Z I L → jJ G 5 54 [(0, .ref v0), (1, .int v1), (2, .int v2), (3, .int v3), (4, .int v4)] [] Z I L (jcz Z - jcz Z0) (jsz Z - jsz Z0) := by
  intro n
  induction n with
  | zero => intro v0 v1 v2 v3 v4 Z I L _ _ _ _ _ h; exact h.elim
  | succ n ih =>
    intro v0 v1 v2 v3 v4 Z I L hZ hx hc hb kv0 h
    have h : (((I v0 48) = v3 → (∀ b2 : Nat, jr Z v0 3 = some b2 → (vp_in v1 24 ∧ (∀ I4 : jI, I4 = jpI I b2 v1.toNatClampNeg v2 → (∀ I5 : jI, I5 = jpI I4 v0 21 (0 : Int32) → (f_X12_tell v0 (v3.toInt64) Z I5 L (fun I8 L9 => Q v4 Z I8 L9))))))) ∧ (¬ ((I v0 48) = v3) → (∀ x12 : Int32, x12 = v4 + (-1) → (∀ b13 : Nat, jr Z v0 3 = some b13 → (vp_in v1 24 ∧ (∀ I15 : jI, I15 = jpI I b13 v1.toNatClampNeg x12 → (f_X12_findAll B v0 Z I15 L (fun Z17 I18 L19 => (f_X12_toll_L54 B Q n) v0 v1 v2 v3 x12 Z17 I18 L19)))))))) := h
    obtain ⟨K54, eK54⟩ : ∃ K : Nat → Int32 → Int32 → Int32 → Int32 → jZ → jI → jL → Prop, K = f_X12_toll_L54 B  Q n := ⟨_, rfl⟩
    have hK54 := ih
    clear eK54 K54
    generalize f_X12_toll_L54 B  Q n = K54 at hK54 h
    refine j_aload_n E dX12_toll_54 0 rfl ?_
    refine j_geti E 12 48 rfl rfl (by decide) (by decide) (iw iT_12) rfl rfl (tw W_889) kv0 dX12_toll_55 ?_
    refine j_iload_n E dX12_toll_58 3 rfl ?_
    refine j_icmp_eq E 80 dX12_toll_59 (by decide) (fun c1 => ?_) (fun c1 => ?_)
    · have h := h.1 c1
      refine j_aload_n E dX12_toll_80 0 rfl ?_
      obtain ⟨b2, eb2, kb2, lb2⟩ := sh_f hZ kv0 (j := 3) (k := 14) (m := 24) rfl
      have h := h b2 eb2
      refine j_getr E 12 3 rfl rfl (by decide) (by decide) (iw iT_12) rfl rfl (tw W_743) kv0 eb2 dX12_toll_81 ?_
      refine j_iload_n E dX12_toll_84 1 rfl ?_
      refine j_iload_n E dX12_toll_85 2 rfl ?_
      obtain ⟨o3, h⟩ := h
      refine j_iast E kb2 (by rw [lb2]; exact o3) dX12_toll_86 ?_
      refine j_nmI (fun I4 eI4 => ?_)
      have h := h I4 eI4
      refine j_aload_n E dX12_toll_87 0 rfl ?_
      refine j_iconst E (v := 0) dX12_toll_88 (by decide) ?_
      refine j_puti E 12 21 rfl rfl (by decide) (by decide) (iw iT_12) tyX12_ok nmX12 rfl rfl (tw W_692) rfl rfl rfl kv0 dX12_toll_89 ?_
      refine j_nmI (fun I5 eI5 => ?_)
      have h := h I5 eI5
      refine j_aload_n E dX12_toll_92 0 rfl ?_
      refine j_iload_n E dX12_toll_93 3 rfl ?_
      refine j_i2l E dX12_toll_94 ?_
      refine j_callV E [.long (v3.toInt64)] [] (c_X12_tell (gL G) (gD G) (gY G) v0 (v3.toInt64) Z I5 L _ hZ kv0 h) (gwV W_820 W_821 W_822 W_695 W_819) rfl ⟨rfl, fy_X12_tell⟩ ⟨Nat.le_of_ble_eq_true rfl, Nat.le_of_ble_eq_true rfl⟩ (c := 12) rfl (by decide) kv0 rfl rfl (Nat.le_of_ble_eq_true rfl) (ju_kn hb) dX12_toll_95 (fun v6 Z7 I8 L9 q10 => ?_)
      obtain ⟨rfl, rfl, h⟩ := q10
      show jJ G 5 98 [(0, .ref v0), (1, .int v1), (2, .int v2), (3, .int v3), (4, .int v4)] [] Z I8 L9 (jcz Z - jcz Z0) (jsz Z - jsz Z0)
      refine j_iload E dX12_toll_98 4 rfl ?_
      exact ju_ireturn E EU hc hb ⟨hx, hZ, hb, _, rfl, h⟩ dX12_toll_100
    · have h := h.2 c1
      obtain ⟨x12, ex12⟩ : ∃ y : Int32, y = v4 + (-1) := ⟨_, rfl⟩
      have h := h x12 ex12
      refine j_iinc E x12 [(4, .int x12), (0, .ref v0), (1, .int v1), (2, .int v2), (3, .int v3)] dX12_toll_62 4 rfl (by rw [ex12]; rfl) (by decide) rfl ?_
      refine j_aload_n E dX12_toll_65 1 rfl ?_
      obtain ⟨b13, eb13, kb13, lb13⟩ := sh_f hZ kv0 (j := 3) (k := 14) (m := 24) rfl
      have h := h b13 eb13
      refine j_getr E 12 3 rfl rfl (by decide) (by decide) (iw iT_12) rfl rfl (tw W_743) kv0 eb13 dX12_toll_66 ?_
      refine j_iload_n E dX12_toll_69 2 rfl ?_
      refine j_iload E dX12_toll_70 0 rfl ?_
      obtain ⟨o14, h⟩ := h
      refine j_iast E kb13 (by rw [lb13]; exact o14) dX12_toll_72 ?_
      refine j_nmI (fun I15 eI15 => ?_)
      have h := h I15 eI15
      refine j_aload_n E dX12_toll_73 1 rfl ?_
      refine ju_callV E [] [] (c_X12_findAll (gL G) (gD G) (gY G) B v0 Z I15 L _ hZ hb kv0 h) (gwV W_893 W_894 W_895 W_695 W_892) rfl ⟨rfl, fy_X12_findAll⟩ ⟨Nat.le_of_ble_eq_true rfl, Nat.le_of_ble_eq_true rfl⟩ (c := 12) rfl (by decide) kv0 rfl rfl (Nat.le_of_ble_eq_true rfl) (ju_f hc hb) dX12_toll_74 (fun v16 Z17 I18 L19 q20 j21 => ?_)
      refine ju_next hc j21 ?_
      have hc := jle_trans hc j21
      obtain ⟨yZ17, hZ17, hbZ17, rfl, h⟩ := q20
      have hZ := hZ17
      have hx : jext Z0 Z17 := jext_trans hx yZ17
      have hb := hbZ17
      have k22 := (yZ17 _ _ kv0).1
      show jJ G 5 77 [(4, .int x12), (0, .ref v0), (1, .int v1), (2, .int v2), (3, .int v3)] [] Z17 I18 L19 (jcz Z17 - jcz Z0) (jsz Z17 - jsz Z0)
      refine j_goto E 54 dX12_toll_77 (by decide) ?_
      refine j_sub [1, 2, 3, 4, 0] rfl ?_
      exact hK54 v0 v1 v2 v3 x12 Z17 I18 L19 hZ hx hc hb k22 h
set_option maxRecDepth 100000 in
def f_X12_toll (B : Nat × Nat) (v0 : Nat) (v1 : Int32) (Z : jZ) (I : jI) (L : jL) (Q : Int32 → jZ → jI → jL → Prop) : Prop := (∀ I23 : jI, I23 = jpI I v0 22 (0 : Int32) → (f_X12_isStep v0 v1 Z I23 L (fun r30 I26 L27 => ((¬ r30 = 0 → (∀ b32 : Nat, jr Z v0 3 = some b32 → (vp_in v1 24 ∧ (∀ x34 : Int32, x34 = (I26 b32 v1.toNatClampNeg) → (∀ b35 : Nat, jr Z v0 3 = some b35 → (vp_in v1 24 ∧ (∀ I37 : jI, I37 = jpI I26 b35 v1.toNatClampNeg (0 : Int32) → (f_X12_findAll B v0 Z I37 L27 (fun Z39 I40 L41 => (∀ x45 : Int32, x45 = (I40 v0 48) → (∀ b46 : Nat, jr Z39 v0 3 = some b46 → (vp_in v1 24 ∧ (∀ I48 : jI, I48 = jpI I40 b46 v1.toNatClampNeg (20 : Int32) → (f_X12_findAll B v0 Z39 I48 L41 (fun Z50 I51 L52 => (∃ m54 : Nat, f_X12_toll_L54 B  Q m54 v0 v1 x34 x45 (20 : Int32) Z50 I51 L52)))))))))))))))) ∧ (r30 = 0 → Q (-1 : Int32) Z I26 L27)))))
set_option maxHeartbeats 4000000 in
set_option maxRecDepth 100000 in
theorem c_X12_toll (l : Launch) (D : va_G) (cy : jC) (B : Nat × Nat) (v0 : Nat) (v1 : Int32) (Z : jZ) (I : jI) (L : jL) (Q : Int32 → jZ → jI → jL → Prop) (hZ : SH Z) (hb : jin B Z) (kv0 : jk Z v0 12) (h : f_X12_toll B v0 v1 Z I L Q) : jCtU l yX12_toll w_X12_toll B 108 2610 D cy [.ref v0, .int v1] Z I L (urtI B Z Q) := by
  refine jCtU_of (cc := cX12_toll) (maxL := 5) (ret := (some .int)) (by decide +kernel) rfl (Nat.le_of_ble_eq_true rfl) ?_
  intro G eD eY eL E EU
  subst eD; subst eY; subst eL
  have E : jE G cX12_toll RX12 w_X12_toll 5 (some .int) (jrm B 108 2610 Z) jRF := E
  have hx : jext Z Z := jext_rfl
  have hc : jle Z Z := jle_rfl
  show jJ G 5 0 [(0, .ref v0), (1, .int v1)] [] Z I L (jcz Z - jcz Z) (jsz Z - jsz Z)
  refine j_aload_n E dX12_toll_0 0 rfl ?_
  refine j_iconst E (v := 0) dX12_toll_1 (by decide) ?_
  refine j_puti E 12 22 rfl rfl (by decide) (by decide) (iw iT_12) tyX12_ok nmX12 rfl rfl (tw W_690) rfl rfl rfl kv0 dX12_toll_2 ?_
  refine j_nmI (fun I23 eI23 => ?_)
  have h := h I23 eI23
  refine j_aload_n E dX12_toll_5 0 rfl ?_
  refine j_iload_n E dX12_toll_6 1 rfl ?_
  refine j_callV E [.int v1] [] (c_X12_isStep (gL G) (gD G) (gY G) v0 v1 Z I23 L _ hZ kv0 h) (gwV W_790 W_791 W_792 W_695 W_789) rfl ⟨rfl, fy_X12_isStep⟩ ⟨Nat.le_of_ble_eq_true rfl, Nat.le_of_ble_eq_true rfl⟩ (c := 12) rfl (by decide) kv0 rfl rfl (Nat.le_of_ble_eq_true rfl) (ju_kn hb) dX12_toll_7 (fun v24 Z25 I26 L27 q28 => ?_)
  obtain ⟨rfl, r30, rfl, zr30, h⟩ := q28
  show jJ G 5 10 [(0, .ref v0), (1, .int v1)] [.int r30] Z I26 L27 (jcz Z - jcz Z) (jsz Z - jsz Z)
  refine j_if_ne E 15 dX12_toll_10 (by decide) (fun c31 => ?_) (fun c31 => ?_)
  · have h := h.1 c31
    refine j_aload_n E dX12_toll_15 0 rfl ?_
    obtain ⟨b32, eb32, kb32, lb32⟩ := sh_f hZ kv0 (j := 3) (k := 14) (m := 24) rfl
    have h := h b32 eb32
    refine j_getr E 12 3 rfl rfl (by decide) (by decide) (iw iT_12) rfl rfl (tw W_743) kv0 eb32 dX12_toll_16 ?_
    refine j_iload_n E dX12_toll_19 1 rfl ?_
    obtain ⟨o33, h⟩ := h
    refine j_iald E kb32 (by rw [lb32]; exact o33) dX12_toll_20 ?_
    refine j_topi (fun x34 ex34 => ?_)
    have h := h x34 ex34
    refine j_istore_n E 2 [(2, .int x34), (0, .ref v0), (1, .int v1)] dX12_toll_21 rfl (by decide) rfl ?_
    refine j_aload_n E dX12_toll_22 1 rfl ?_
    obtain ⟨b35, eb35, kb35, lb35⟩ := sh_f hZ kv0 (j := 3) (k := 14) (m := 24) rfl
    have h := h b35 eb35
    refine j_getr E 12 3 rfl rfl (by decide) (by decide) (iw iT_12) rfl rfl (tw W_743) kv0 eb35 dX12_toll_23 ?_
    refine j_iload_n E dX12_toll_26 2 rfl ?_
    refine j_iconst E (v := 0) dX12_toll_27 (by decide) ?_
    obtain ⟨o36, h⟩ := h
    refine j_iast E kb35 (by rw [lb35]; exact o36) dX12_toll_28 ?_
    refine j_nmI (fun I37 eI37 => ?_)
    have h := h I37 eI37
    refine j_aload_n E dX12_toll_29 1 rfl ?_
    refine ju_callV E [] [] (c_X12_findAll (gL G) (gD G) (gY G) B v0 Z I37 L27 _ hZ hb kv0 h) (gwV W_893 W_894 W_895 W_695 W_892) rfl ⟨rfl, fy_X12_findAll⟩ ⟨Nat.le_of_ble_eq_true rfl, Nat.le_of_ble_eq_true rfl⟩ (c := 12) rfl (by decide) kv0 rfl rfl (Nat.le_of_ble_eq_true rfl) (ju_f hc hb) dX12_toll_30 (fun v38 Z39 I40 L41 q42 j43 => ?_)
    refine ju_next hc j43 ?_
    have hc := jle_trans hc j43
    obtain ⟨yZ39, hZ39, hbZ39, rfl, h⟩ := q42
    have hZ := hZ39
    have hx : jext Z Z39 := jext_trans hx yZ39
    have hb := hbZ39
    have k44 := (yZ39 _ _ kv0).1
    show jJ G 5 33 [(2, .int x34), (0, .ref v0), (1, .int v1)] [] Z39 I40 L41 (jcz Z39 - jcz Z) (jsz Z39 - jsz Z)
    refine j_aload_n E dX12_toll_33 1 rfl ?_
    refine j_geti E 12 48 rfl rfl (by decide) (by decide) (iw iT_12) rfl rfl (tw W_889) k44 dX12_toll_34 ?_
    refine j_topi (fun x45 ex45 => ?_)
    have h := h x45 ex45
    refine j_istore_n E 3 [(3, .int x45), (2, .int x34), (0, .ref v0), (1, .int v1)] dX12_toll_37 rfl (by decide) rfl ?_
    refine j_bipush E (v := 20) dX12_toll_38 (by decide) ?_
    refine j_istore E 4 [(4, .int (20 : Int32)), (3, .int x45), (2, .int x34), (0, .ref v0), (1, .int v1)] dX12_toll_40 (by decide) rfl ?_
    refine j_aload_n E dX12_toll_42 3 rfl ?_
    obtain ⟨b46, eb46, kb46, lb46⟩ := sh_f hZ k44 (j := 3) (k := 14) (m := 24) rfl
    have h := h b46 eb46
    refine j_getr E 12 3 rfl rfl (by decide) (by decide) (iw iT_12) rfl rfl (tw W_743) k44 eb46 dX12_toll_43 ?_
    refine j_iload_n E dX12_toll_46 4 rfl ?_
    refine j_iload E dX12_toll_47 0 rfl ?_
    obtain ⟨o47, h⟩ := h
    refine j_iast E kb46 (by rw [lb46]; exact o47) dX12_toll_49 ?_
    refine j_nmI (fun I48 eI48 => ?_)
    have h := h I48 eI48
    refine j_aload_n E dX12_toll_50 3 rfl ?_
    refine ju_callV E [] [] (c_X12_findAll (gL G) (gD G) (gY G) B v0 Z39 I48 L41 _ hZ hb k44 h) (gwV W_893 W_894 W_895 W_695 W_892) rfl ⟨rfl, fy_X12_findAll⟩ ⟨Nat.le_of_ble_eq_true rfl, Nat.le_of_ble_eq_true rfl⟩ (c := 12) rfl (by decide) k44 rfl rfl (Nat.le_of_ble_eq_true rfl) (ju_f hc hb) dX12_toll_51 (fun v49 Z50 I51 L52 q53 j54 => ?_)
    refine ju_next hc j54 ?_
    have hc := jle_trans hc j54
    obtain ⟨yZ50, hZ50, hbZ50, rfl, h⟩ := q53
    have hZ := hZ50
    have hx : jext Z Z50 := jext_trans hx yZ50
    have hb := hbZ50
    have k55 := (yZ50 _ _ k44).1
    show jJ G 5 54 [(4, .int (20 : Int32)), (3, .int x45), (2, .int x34), (0, .ref v0), (1, .int v1)] [] Z50 I51 L52 (jcz Z50 - jcz Z) (jsz Z50 - jsz Z)
    obtain ⟨n56, h⟩ := h
    refine j_sub [3, 4, 2, 1, 0] rfl ?_
    exact m_X12_toll_L54 E EU  n56 v0 v1 x34 x45 (20 : Int32) Z50 I51 L52 hZ hx hc hb k55 h
  · have h := h.2 c31
    refine j_iconst E (v := -1) dX12_toll_13 (by decide) ?_
    exact ju_ireturn E EU hc hb ⟨hx, hZ, hb, _, rfl, h⟩ dX12_toll_14
set_option maxRecDepth 100000 in
def f_X12_peace_b129 (B : Nat × Nat) (K25 : Nat → Int32 → Int32 → Int32 → Int32 → Int32 → jZ → jI → jL → Prop) (K38 : Nat → Int32 → Int32 → Int32 → Int32 → Int32 → Int32 → jZ → jI → jL → Prop) (Q : Int32 → jZ → jI → jL → Prop) (v0 : Nat) (v1 : Int32) (v2 : Int32) (v3 : Int32) (v4 : Int32) (v5 : Int32) (v6 : Int32) (Z : jZ) (I : jI) (L : jL) : Prop := (∀ x1 : Int32, x1 = v6 + 1 → K38 v0 v1 v2 v3 v4 v5 x1 Z I L)
set_option maxHeartbeats 4000000 in
set_option maxRecDepth 100000 in
theorem m_X12_peace_b129 {G : jG} {B : Nat × Nat} {Z0 : jZ} {Q : Int32 → jZ → jI → jL → Prop} (E : jE G cX12_peace RX12 w_X12_peace 7 (some .int) (jrm B 108 2610 Z0) jRF) (EU : jEU G B Z0 (urtI B Z0 Q)) (K25 : Nat → Int32 → Int32 → Int32 → Int32 → Int32 → jZ → jI → jL → Prop) (hK25 : ∀ (v0 : Nat) (v1 : Int32) (v2 : Int32) (v3 : Int32) (v4 : Int32) (v5 : Int32) (Z : jZ) (I : jI) (L : jL), SH Z → jext Z0 Z → jle Z0 Z → jin B Z → jk Z v0 12 → K25 v0 v1 v2 v3 v4 v5 Z I L → jJ G 7 25 [(0, .ref v0), (1, .int v1), (2, .int v2), (3, .int v3), (4, .int v4), (5, .int v5)] [] Z I L (jcz Z - jcz Z0) (jsz Z - jsz Z0)) (K38 : Nat → Int32 → Int32 → Int32 → Int32 → Int32 → Int32 → jZ → jI → jL → Prop) (hK38 : ∀ (v0 : Nat) (v1 : Int32) (v2 : Int32) (v3 : Int32) (v4 : Int32) (v5 : Int32) (v6 : Int32) (Z : jZ) (I : jI) (L : jL), SH Z → jext Z0 Z → jle Z0 Z → jin B Z → jk Z v0 12 → K38 v0 v1 v2 v3 v4 v5 v6 Z I L → jJ G 7 38 [(0, .ref v0), (1, .int v1), (2, .int v2), (3, .int v3), (4, .int v4), (5, .int v5), (6, .int v6)] [] Z I L (jcz Z - jcz Z0) (jsz Z - jsz Z0)) (v0 : Nat) (v1 : Int32) (v2 : Int32) (v3 : Int32) (v4 : Int32) (v5 : Int32) (v6 : Int32) (Z : jZ) (I : jI) (L : jL) (hZ : SH Z) (hx : jext Z0 Z) (hc : jle Z0 Z) (hb : jin B Z) (kv0 : jk Z v0 12) (h : f_X12_peace_b129 B K25 K38 Q v0 v1 v2 v3 v4 v5 v6 Z I L) : jJ G 7 129 [(0, .ref v0), (1, .int v1), (2, .int v2), (3, .int v3), (4, .int v4), (5, .int v5), (6, .int v6)] [] Z I L (jcz Z - jcz Z0) (jsz Z - jsz Z0) := by
  obtain ⟨x1, ex1⟩ : ∃ y : Int32, y = v6 + 1 := ⟨_, rfl⟩
  have h := h x1 ex1
  refine j_iinc E x1 [(6, .int x1), (0, .ref v0), (1, .int v1), (2, .int v2), (3, .int v3), (4, .int v4), (5, .int v5)] dX12_peace_129 6 rfl (by rw [ex1]; rfl) (by decide) rfl ?_
  refine j_goto E 38 dX12_peace_132 (by decide) ?_
  refine j_sub [1, 2, 3, 4, 5, 6, 0] rfl ?_
  exact hK38 v0 v1 v2 v3 v4 v5 x1 Z I L hZ hx hc hb kv0 h
set_option maxRecDepth 100000 in
def f_X12_peace_b109 (B : Nat × Nat) (K25 : Nat → Int32 → Int32 → Int32 → Int32 → Int32 → jZ → jI → jL → Prop) (K38 : Nat → Int32 → Int32 → Int32 → Int32 → Int32 → Int32 → jZ → jI → jL → Prop) (Q : Int32 → jZ → jI → jL → Prop) (v0 : Nat) (v1 : Int32) (v5 : Int32) (v6 : Int32) (Z : jZ) (I : jI) (L : jL) : Prop := (∀ x2 : Int32, x2 = (((10 : Int32) * v5) + v6) → (∀ x3 : Int32, x3 = (I v0 49) → (∀ x4 : Int32, x4 = (I v0 48) → f_X12_peace_b129 B K25 K38 Q v0 v1 x2 x3 x4 v5 v6 Z I L)))
set_option maxHeartbeats 4000000 in
set_option maxRecDepth 100000 in
theorem m_X12_peace_b109 {G : jG} {B : Nat × Nat} {Z0 : jZ} {Q : Int32 → jZ → jI → jL → Prop} (E : jE G cX12_peace RX12 w_X12_peace 7 (some .int) (jrm B 108 2610 Z0) jRF) (EU : jEU G B Z0 (urtI B Z0 Q)) (K25 : Nat → Int32 → Int32 → Int32 → Int32 → Int32 → jZ → jI → jL → Prop) (hK25 : ∀ (v0 : Nat) (v1 : Int32) (v2 : Int32) (v3 : Int32) (v4 : Int32) (v5 : Int32) (Z : jZ) (I : jI) (L : jL), SH Z → jext Z0 Z → jle Z0 Z → jin B Z → jk Z v0 12 → K25 v0 v1 v2 v3 v4 v5 Z I L → jJ G 7 25 [(0, .ref v0), (1, .int v1), (2, .int v2), (3, .int v3), (4, .int v4), (5, .int v5)] [] Z I L (jcz Z - jcz Z0) (jsz Z - jsz Z0)) (K38 : Nat → Int32 → Int32 → Int32 → Int32 → Int32 → Int32 → jZ → jI → jL → Prop) (hK38 : ∀ (v0 : Nat) (v1 : Int32) (v2 : Int32) (v3 : Int32) (v4 : Int32) (v5 : Int32) (v6 : Int32) (Z : jZ) (I : jI) (L : jL), SH Z → jext Z0 Z → jle Z0 Z → jin B Z → jk Z v0 12 → K38 v0 v1 v2 v3 v4 v5 v6 Z I L → jJ G 7 38 [(0, .ref v0), (1, .int v1), (2, .int v2), (3, .int v3), (4, .int v4), (5, .int v5), (6, .int v6)] [] Z I L (jcz Z - jcz Z0) (jsz Z - jsz Z0)) (v0 : Nat) (v1 : Int32) (v5 : Int32) (v6 : Int32) (Z : jZ) (I : jI) (L : jL) (hZ : SH Z) (hx : jext Z0 Z) (hc : jle Z0 Z) (hb : jin B Z) (kv0 : jk Z v0 12) (h : f_X12_peace_b109 B K25 K38 Q v0 v1 v5 v6 Z I L) : jJ G 7 109 [(0, .ref v0), (1, .int v1), (5, .int v5), (6, .int v6)] [] Z I L (jcz Z - jcz Z0) (jsz Z - jsz Z0) := by
  refine j_bipush E (v := 10) dX12_peace_109 (by decide) ?_
  refine j_iload E dX12_peace_111 2 rfl ?_
  refine j_imul E dX12_peace_113 ?_
  refine j_iload E dX12_peace_114 3 rfl ?_
  refine j_iadd E dX12_peace_116 ?_
  refine j_topi (fun x2 ex2 => ?_)
  have h := h x2 ex2
  refine j_istore_n E 2 [(2, .int x2), (0, .ref v0), (1, .int v1), (5, .int v5), (6, .int v6)] dX12_peace_117 rfl (by decide) rfl ?_
  refine j_aload_n E dX12_peace_118 1 rfl ?_
  refine j_geti E 12 49 rfl rfl (by decide) (by decide) (iw iT_12) rfl rfl (tw W_890) kv0 dX12_peace_119 ?_
  refine j_topi (fun x3 ex3 => ?_)
  have h := h x3 ex3
  refine j_istore_n E 3 [(3, .int x3), (2, .int x2), (0, .ref v0), (1, .int v1), (5, .int v5), (6, .int v6)] dX12_peace_122 rfl (by decide) rfl ?_
  refine j_aload_n E dX12_peace_123 2 rfl ?_
  refine j_geti E 12 48 rfl rfl (by decide) (by decide) (iw iT_12) rfl rfl (tw W_889) kv0 dX12_peace_124 ?_
  refine j_topi (fun x4 ex4 => ?_)
  have h := h x4 ex4
  refine j_istore E 4 [(4, .int x4), (3, .int x3), (2, .int x2), (0, .ref v0), (1, .int v1), (5, .int v5), (6, .int v6)] dX12_peace_127 (by decide) rfl ?_
  refine j_sub [3, 4, 2, 1, 0, 5, 6] rfl ?_
  exact m_X12_peace_b129 E EU K25 hK25 K38 hK38 v0 v1 x2 x3 x4 v5 v6 Z I L hZ hx hc hb kv0 h
set_option maxRecDepth 100000 in
def f_X12_peace_L38 (B : Nat × Nat) (K25 : Nat → Int32 → Int32 → Int32 → Int32 → Int32 → jZ → jI → jL → Prop) (Q : Int32 → jZ → jI → jL → Prop) : Nat → Nat → Int32 → Int32 → Int32 → Int32 → Int32 → Int32 → jZ → jI → jL → Prop
  | 0 => fun _ _ _ _ _ _ _ _ _ _ => False
  | n + 1 => fun v0 v1 v2 v3 v4 v5 v6 Z I L => (((8 : Int32) ≤ v6 → (∀ x6 : Int32, x6 = v5 + 1 → K25 v0 v1 v2 v3 v4 x6 Z I L)) ∧ (¬ ((8 : Int32) ≤ v6) → (∀ b7 : Nat, jr Z v0 6 = some b7 → (vp_in (((8 : Int32) * v5) + v6) 64 ∧ ((¬ (I b7 (((8 : Int32) * v5) + v6).toNatClampNeg) = 0 → (f_X12_setFeud v0 v5 v6 (0 : Int32) Z I L (fun I12 L13 => (f_X12_findAll B v0 Z I12 L13 (fun Z17 I18 L19 => (f_X12_setFeud v0 v5 v6 (1 : Int32) Z17 I18 L19 (fun I25 L26 => (((I25 v0 48) < v1 → f_X12_peace_b129 B K25 (f_X12_peace_L38 B K25 Q n) Q v0 v1 v2 v3 v4 v5 v6 Z17 I25 L26) ∧ (¬ ((I25 v0 48) < v1) → ((v2 < 0 → f_X12_peace_b109 B K25 (f_X12_peace_L38 B K25 Q n) Q v0 v1 v5 v6 Z17 I25 L26) ∧ (¬ (v2 < 0) → (((I25 v0 49) < v3 → f_X12_peace_b109 B K25 (f_X12_peace_L38 B K25 Q n) Q v0 v1 v5 v6 Z17 I25 L26) ∧ (¬ ((I25 v0 49) < v3) → f_X12_peace_b129 B K25 (f_X12_peace_L38 B K25 Q n) Q v0 v1 v2 v3 v4 v5 v6 Z17 I25 L26))))))))))))) ∧ ((I b7 (((8 : Int32) * v5) + v6).toNatClampNeg) = 0 → f_X12_peace_b129 B K25 (f_X12_peace_L38 B K25 Q n) Q v0 v1 v2 v3 v4 v5 v6 Z I L))))))
set_option maxHeartbeats 4000000 in
set_option maxRecDepth 100000 in
theorem m_X12_peace_L38 {G : jG} {Z0 : jZ} {B : Nat × Nat} {Q : Int32 → jZ → jI → jL → Prop} (E : jE G cX12_peace RX12 w_X12_peace 7 (some .int) (jrm B 108 2610 Z0) jRF) (EU : jEU G B Z0 (urtI B Z0 Q)) (K25 : Nat → Int32 → Int32 → Int32 → Int32 → Int32 → jZ → jI → jL → Prop) (hK25 : ∀ (v0 : Nat) (v1 : Int32) (v2 : Int32) (v3 : Int32) (v4 : Int32) (v5 : Int32) (Z : jZ) (I : jI) (L : jL), SH Z → jext Z0 Z → jle Z0 Z → jin B Z → jk Z v0 12 → K25 v0 v1 v2 v3 v4 v5 Z I L → jJ G 7 25 [(0, .ref v0), (1, .int v1), (2, .int v2), (3, .int v3), (4, .int v4), (5, .int v5)] [] Z I L (jcz Z - jcz Z0) (jsz Z - jsz Z0)) : ∀ (n : Nat) (v0 : Nat) (v1 : Int32) (v2 : Int32) (v3 : Int32) (v4 : Int32) (v5 : Int32) (v6 : Int32) (Z : jZ) (I : jI) (L : jL), SH Z → jext Z0 Z → jle Z0 Z → jin B Z → jk Z v0 12 → f_X12_peace_L38 B K25 Q n v0 v1 v2 v3 v4 v5 v6 Z I L → jJ G 7 38 [(0, .ref v0), (1, .int v1), (2, .int v2), (3, .int v3), (4, .int v4), (5, .int v5), (6, .int v6)] [] Z I L (jcz Z - jcz Z0) (jsz Z - jsz Z0) := by
  intro n
  induction n with
  | zero => intro v0 v1 v2 v3 v4 v5 v6 Z I L _ _ _ _ _ h; exact h.elim
  | succ n ih =>
    intro v0 v1 v2 v3 v4 v5 v6 Z I L hZ hx hc hb kv0 h
    have h : (((8 : Int32) ≤ v6 → (∀ x6 : Int32, x6 = v5 + 1 → K25 v0 v1 v2 v3 v4 x6 Z I L)) ∧ (¬ ((8 : Int32) ≤ v6) → (∀ b7 : Nat, jr Z v0 6 = some b7 → (vp_in (((8 : Int32) * v5) + v6) 64 ∧ ((¬ (I b7 (((8 : Int32) * v5) + v6).toNatClampNeg) = 0 → (f_X12_setFeud v0 v5 v6 (0 : Int32) Z I L (fun I12 L13 => (f_X12_findAll B v0 Z I12 L13 (fun Z17 I18 L19 => (f_X12_setFeud v0 v5 v6 (1 : Int32) Z17 I18 L19 (fun I25 L26 => (((I25 v0 48) < v1 → f_X12_peace_b129 B K25 (f_X12_peace_L38 B K25 Q n) Q v0 v1 v2 v3 v4 v5 v6 Z17 I25 L26) ∧ (¬ ((I25 v0 48) < v1) → ((v2 < 0 → f_X12_peace_b109 B K25 (f_X12_peace_L38 B K25 Q n) Q v0 v1 v5 v6 Z17 I25 L26) ∧ (¬ (v2 < 0) → (((I25 v0 49) < v3 → f_X12_peace_b109 B K25 (f_X12_peace_L38 B K25 Q n) Q v0 v1 v5 v6 Z17 I25 L26) ∧ (¬ ((I25 v0 49) < v3) → f_X12_peace_b129 B K25 (f_X12_peace_L38 B K25 Q n) Q v0 v1 v2 v3 v4 v5 v6 Z17 I25 L26))))))))))))) ∧ ((I b7 (((8 : Int32) * v5) + v6).toNatClampNeg) = 0 → f_X12_peace_b129 B K25 (f_X12_peace_L38 B K25 Q n) Q v0 v1 v2 v3 v4 v5 v6 Z I L)))))) := h
    obtain ⟨K38, eK38⟩ : ∃ K : Nat → Int32 → Int32 → Int32 → Int32 → Int32 → Int32 → jZ → jI → jL → Prop, K = f_X12_peace_L38 B K25 Q n := ⟨_, rfl⟩
    have hK38 := ih
    clear eK38 K38
    generalize f_X12_peace_L38 B K25 Q n = K38 at hK38 h
    refine j_iload E dX12_peace_38 6 rfl ?_
    refine j_bipush E (v := 8) dX12_peace_40 (by decide) ?_
    refine j_icmp_ge E 135 dX12_peace_42 (by decide) (fun c5 => ?_) (fun c5 => ?_)
    · have h := h.1 c5
      obtain ⟨x6, ex6⟩ : ∃ y : Int32, y = v5 + 1 := ⟨_, rfl⟩
      have h := h x6 ex6
      refine j_iinc E x6 [(5, .int x6), (0, .ref v0), (1, .int v1), (2, .int v2), (3, .int v3), (4, .int v4), (6, .int v6)] dX12_peace_135 5 rfl (by rw [ex6]; rfl) (by decide) rfl ?_
      refine j_goto E 25 dX12_peace_138 (by decide) ?_
      refine j_sub [1, 2, 3, 4, 5, 0] rfl ?_
      exact hK25 v0 v1 v2 v3 v4 x6 Z I L hZ hx hc hb kv0 h
    · have h := h.2 c5
      refine j_aload_n E dX12_peace_45 0 rfl ?_
      obtain ⟨b7, eb7, kb7, lb7⟩ := sh_f hZ kv0 (j := 6) (k := 16) (m := 64) rfl
      have h := h b7 eb7
      refine j_getr E 12 6 rfl rfl (by decide) (by decide) (iw iT_12) rfl rfl (tw W_755) kv0 eb7 dX12_peace_46 ?_
      refine j_bipush E (v := 8) dX12_peace_49 (by decide) ?_
      refine j_iload E dX12_peace_51 5 rfl ?_
      refine j_imul E dX12_peace_53 ?_
      refine j_iload E dX12_peace_54 6 rfl ?_
      refine j_iadd E dX12_peace_56 ?_
      obtain ⟨o8, h⟩ := h
      refine j_zald E kb7 (by rw [lb7]; exact o8) dX12_peace_57 ?_
      refine j_if_ne E 64 dX12_peace_58 (by decide) (fun c9 => ?_) (fun c9 => ?_)
      · have h := h.1 c9
        refine j_aload_n E dX12_peace_64 0 rfl ?_
        refine j_iload E dX12_peace_65 5 rfl ?_
        refine j_iload E dX12_peace_67 6 rfl ?_
        refine j_iconst E (v := 0) dX12_peace_69 (by decide) ?_
        refine j_callV E [.int v5, .int v6, .int (0 : Int32)] [] (c_X12_setFeud (gL G) (gD G) (gY G) v0 v5 v6 (0 : Int32) Z I L _ hZ kv0 h) (gwV W_797 W_798 W_799 W_695 W_796) rfl ⟨rfl, fy_X12_setFeud⟩ ⟨Nat.le_of_ble_eq_true rfl, Nat.le_of_ble_eq_true rfl⟩ (c := 12) rfl (by decide) kv0 rfl rfl (Nat.le_of_ble_eq_true rfl) (ju_kn hb) dX12_peace_70 (fun v10 Z11 I12 L13 q14 => ?_)
        obtain ⟨rfl, rfl, h⟩ := q14
        show jJ G 7 73 [(0, .ref v0), (1, .int v1), (2, .int v2), (3, .int v3), (4, .int v4), (5, .int v5), (6, .int v6)] [] Z I12 L13 (jcz Z - jcz Z0) (jsz Z - jsz Z0)
        refine j_aload_n E dX12_peace_73 0 rfl ?_
        refine ju_callV E [] [] (c_X12_findAll (gL G) (gD G) (gY G) B v0 Z I12 L13 _ hZ hb kv0 h) (gwV W_893 W_894 W_895 W_695 W_892) rfl ⟨rfl, fy_X12_findAll⟩ ⟨Nat.le_of_ble_eq_true rfl, Nat.le_of_ble_eq_true rfl⟩ (c := 12) rfl (by decide) kv0 rfl rfl (Nat.le_of_ble_eq_true rfl) (ju_f hc hb) dX12_peace_74 (fun v16 Z17 I18 L19 q20 j21 => ?_)
        refine ju_next hc j21 ?_
        have hc := jle_trans hc j21
        obtain ⟨yZ17, hZ17, hbZ17, rfl, h⟩ := q20
        have hZ := hZ17
        have hx : jext Z0 Z17 := jext_trans hx yZ17
        have hb := hbZ17
        have k22 := (yZ17 _ _ kv0).1
        show jJ G 7 77 [(0, .ref v0), (1, .int v1), (2, .int v2), (3, .int v3), (4, .int v4), (5, .int v5), (6, .int v6)] [] Z17 I18 L19 (jcz Z17 - jcz Z0) (jsz Z17 - jsz Z0)
        refine j_aload_n E dX12_peace_77 0 rfl ?_
        refine j_iload E dX12_peace_78 5 rfl ?_
        refine j_iload E dX12_peace_80 6 rfl ?_
        refine j_iconst E (v := 1) dX12_peace_82 (by decide) ?_
        refine j_callV E [.int v5, .int v6, .int (1 : Int32)] [] (c_X12_setFeud (gL G) (gD G) (gY G) v0 v5 v6 (1 : Int32) Z17 I18 L19 _ hZ k22 h) (gwV W_797 W_798 W_799 W_695 W_796) rfl ⟨rfl, fy_X12_setFeud⟩ ⟨Nat.le_of_ble_eq_true rfl, Nat.le_of_ble_eq_true rfl⟩ (c := 12) rfl (by decide) k22 rfl rfl (Nat.le_of_ble_eq_true rfl) (ju_kn hb) dX12_peace_83 (fun v23 Z24 I25 L26 q27 => ?_)
        obtain ⟨rfl, rfl, h⟩ := q27
        show jJ G 7 86 [(0, .ref v0), (1, .int v1), (2, .int v2), (3, .int v3), (4, .int v4), (5, .int v5), (6, .int v6)] [] Z17 I25 L26 (jcz Z17 - jcz Z0) (jsz Z17 - jsz Z0)
        refine j_aload_n E dX12_peace_86 0 rfl ?_
        refine j_geti E 12 48 rfl rfl (by decide) (by decide) (iw iT_12) rfl rfl (tw W_889) k22 dX12_peace_87 ?_
        refine j_iload_n E dX12_peace_90 1 rfl ?_
        refine j_icmp_lt E 129 dX12_peace_91 (by decide) (fun c29 => ?_) (fun c29 => ?_)
        · have h := h.1 c29
          refine j_sub [0, 1, 2, 3, 4, 5, 6] rfl ?_
          exact m_X12_peace_b129 E EU K25 hK25 K38 hK38 v0 v1 v2 v3 v4 v5 v6 Z17 I25 L26 hZ hx hc hb k22 h
        · have h := h.2 c29
          refine j_iload_n E dX12_peace_94 2 rfl ?_
          refine j_if_lt E 109 dX12_peace_95 (by decide) (fun c30 => ?_) (fun c30 => ?_)
          · have h := h.1 c30
            refine j_sub [0, 1, 5, 6] rfl ?_
            exact m_X12_peace_b109 E EU K25 hK25 K38 hK38 v0 v1 v5 v6 Z17 I25 L26 hZ hx hc hb k22 h
          · have h := h.2 c30
            refine j_aload_n E dX12_peace_98 0 rfl ?_
            refine j_geti E 12 49 rfl rfl (by decide) (by decide) (iw iT_12) rfl rfl (tw W_890) k22 dX12_peace_99 ?_
            refine j_iload_n E dX12_peace_102 3 rfl ?_
            refine j_icmp_lt E 109 dX12_peace_103 (by decide) (fun c31 => ?_) (fun c31 => ?_)
            · have h := h.1 c31
              refine j_sub [0, 1, 5, 6] rfl ?_
              exact m_X12_peace_b109 E EU K25 hK25 K38 hK38 v0 v1 v5 v6 Z17 I25 L26 hZ hx hc hb k22 h
            · have h := h.2 c31
              refine j_goto E 129 dX12_peace_106 (by decide) ?_
              refine j_sub [0, 1, 2, 3, 4, 5, 6] rfl ?_
              exact m_X12_peace_b129 E EU K25 hK25 K38 hK38 v0 v1 v2 v3 v4 v5 v6 Z17 I25 L26 hZ hx hc hb k22 h
      · have h := h.2 c9
        refine j_goto E 129 dX12_peace_61 (by decide) ?_
        refine j_sub [0, 1, 2, 3, 4, 5, 6] rfl ?_
        exact m_X12_peace_b129 E EU K25 hK25 K38 hK38 v0 v1 v2 v3 v4 v5 v6 Z I L hZ hx hc hb kv0 h
set_option maxRecDepth 100000 in
def f_X12_peace_L25 (B : Nat × Nat)  (Q : Int32 → jZ → jI → jL → Prop) : Nat → Nat → Int32 → Int32 → Int32 → Int32 → Int32 → jZ → jI → jL → Prop
  | 0 => fun _ _ _ _ _ _ _ _ _ => False
  | n + 1 => fun v0 v1 v2 v3 v4 v5 Z I L => (((8 : Int32) ≤ v5 → ((0 ≤ v2 → (∀ I34 : jI, I34 = jpI I v0 21 (0 : Int32) → (f_X12_tell v0 (v3.toInt64) Z I34 L (fun I37 L38 => (f_X12_tell v0 (v4.toInt64) Z I37 L38 (fun I43 L44 => Q v2 Z I43 L44)))))) ∧ (¬ (0 ≤ v2) → Q (-2 : Int32) Z I L))) ∧ (¬ ((8 : Int32) ≤ v5) → (∀ x47 : Int32, x47 = (v5 + (1 : Int32)) → (∃ m38 : Nat, f_X12_peace_L38 B (f_X12_peace_L25 B Q n) Q m38 v0 v1 v2 v3 v4 v5 x47 Z I L))))
set_option maxHeartbeats 4000000 in
set_option maxRecDepth 100000 in
theorem m_X12_peace_L25 {G : jG} {Z0 : jZ} {B : Nat × Nat} {Q : Int32 → jZ → jI → jL → Prop} (E : jE G cX12_peace RX12 w_X12_peace 7 (some .int) (jrm B 108 2610 Z0) jRF) (EU : jEU G B Z0 (urtI B Z0 Q))  : ∀ (n : Nat) (v0 : Nat) (v1 : Int32) (v2 : Int32) (v3 : Int32) (v4 : Int32) (v5 : Int32) (Z : jZ) (I : jI) (L : jL), SH Z → jext Z0 Z → jle Z0 Z → jin B Z → jk Z v0 12 → f_X12_peace_L25 B  Q n v0 v1 v2 v3 v4 v5 Z I L → jJ G 7 25 [(0, .ref v0), (1, .int v1), (2, .int v2), (3, .int v3), (4, .int v4), (5, .int v5)] [] Z I L (jcz Z - jcz Z0) (jsz Z - jsz Z0) := by
  intro n
  induction n with
  | zero => intro v0 v1 v2 v3 v4 v5 Z I L _ _ _ _ _ h; exact h.elim
  | succ n ih =>
    intro v0 v1 v2 v3 v4 v5 Z I L hZ hx hc hb kv0 h
    have h : (((8 : Int32) ≤ v5 → ((0 ≤ v2 → (∀ I34 : jI, I34 = jpI I v0 21 (0 : Int32) → (f_X12_tell v0 (v3.toInt64) Z I34 L (fun I37 L38 => (f_X12_tell v0 (v4.toInt64) Z I37 L38 (fun I43 L44 => Q v2 Z I43 L44)))))) ∧ (¬ (0 ≤ v2) → Q (-2 : Int32) Z I L))) ∧ (¬ ((8 : Int32) ≤ v5) → (∀ x47 : Int32, x47 = (v5 + (1 : Int32)) → (∃ m38 : Nat, f_X12_peace_L38 B (f_X12_peace_L25 B Q n) Q m38 v0 v1 v2 v3 v4 v5 x47 Z I L)))) := h
    obtain ⟨K25, eK25⟩ : ∃ K : Nat → Int32 → Int32 → Int32 → Int32 → Int32 → jZ → jI → jL → Prop, K = f_X12_peace_L25 B  Q n := ⟨_, rfl⟩
    have hK25 := ih
    clear eK25 K25
    generalize f_X12_peace_L25 B  Q n = K25 at hK25 h
    refine j_iload E dX12_peace_25 5 rfl ?_
    refine j_bipush E (v := 8) dX12_peace_27 (by decide) ?_
    refine j_icmp_ge E 141 dX12_peace_29 (by decide) (fun c32 => ?_) (fun c32 => ?_)
    · have h := h.1 c32
      refine j_iload_n E dX12_peace_141 2 rfl ?_
      refine j_if_ge E 148 dX12_peace_142 (by decide) (fun c33 => ?_) (fun c33 => ?_)
      · have h := h.1 c33
        refine j_aload_n E dX12_peace_148 0 rfl ?_
        refine j_iconst E (v := 0) dX12_peace_149 (by decide) ?_
        refine j_puti E 12 21 rfl rfl (by decide) (by decide) (iw iT_12) tyX12_ok nmX12 rfl rfl (tw W_692) rfl rfl rfl kv0 dX12_peace_150 ?_
        refine j_nmI (fun I34 eI34 => ?_)
        have h := h I34 eI34
        refine j_aload_n E dX12_peace_153 0 rfl ?_
        refine j_iload_n E dX12_peace_154 3 rfl ?_
        refine j_i2l E dX12_peace_155 ?_
        refine j_callV E [.long (v3.toInt64)] [] (c_X12_tell (gL G) (gD G) (gY G) v0 (v3.toInt64) Z I34 L _ hZ kv0 h) (gwV W_820 W_821 W_822 W_695 W_819) rfl ⟨rfl, fy_X12_tell⟩ ⟨Nat.le_of_ble_eq_true rfl, Nat.le_of_ble_eq_true rfl⟩ (c := 12) rfl (by decide) kv0 rfl rfl (Nat.le_of_ble_eq_true rfl) (ju_kn hb) dX12_peace_156 (fun v35 Z36 I37 L38 q39 => ?_)
        obtain ⟨rfl, rfl, h⟩ := q39
        show jJ G 7 159 [(0, .ref v0), (1, .int v1), (2, .int v2), (3, .int v3), (4, .int v4), (5, .int v5)] [] Z I37 L38 (jcz Z - jcz Z0) (jsz Z - jsz Z0)
        refine j_aload_n E dX12_peace_159 0 rfl ?_
        refine j_iload E dX12_peace_160 4 rfl ?_
        refine j_i2l E dX12_peace_162 ?_
        refine j_callV E [.long (v4.toInt64)] [] (c_X12_tell (gL G) (gD G) (gY G) v0 (v4.toInt64) Z I37 L38 _ hZ kv0 h) (gwV W_820 W_821 W_822 W_695 W_819) rfl ⟨rfl, fy_X12_tell⟩ ⟨Nat.le_of_ble_eq_true rfl, Nat.le_of_ble_eq_true rfl⟩ (c := 12) rfl (by decide) kv0 rfl rfl (Nat.le_of_ble_eq_true rfl) (ju_kn hb) dX12_peace_163 (fun v41 Z42 I43 L44 q45 => ?_)
        obtain ⟨rfl, rfl, h⟩ := q45
        show jJ G 7 166 [(0, .ref v0), (1, .int v1), (2, .int v2), (3, .int v3), (4, .int v4), (5, .int v5)] [] Z I43 L44 (jcz Z - jcz Z0) (jsz Z - jsz Z0)
        refine j_iload_n E dX12_peace_166 2 rfl ?_
        exact ju_ireturn E EU hc hb ⟨hx, hZ, hb, _, rfl, h⟩ dX12_peace_167
      · have h := h.2 c33
        refine j_bipush E (v := -2) dX12_peace_145 (by decide) ?_
        exact ju_ireturn E EU hc hb ⟨hx, hZ, hb, _, rfl, h⟩ dX12_peace_147
    · have h := h.2 c32
      refine j_iload E dX12_peace_32 5 rfl ?_
      refine j_iconst E (v := 1) dX12_peace_34 (by decide) ?_
      refine j_iadd E dX12_peace_35 ?_
      refine j_topi (fun x47 ex47 => ?_)
      have h := h x47 ex47
      refine j_istore E 6 [(6, .int x47), (0, .ref v0), (1, .int v1), (2, .int v2), (3, .int v3), (4, .int v4), (5, .int v5)] dX12_peace_36 (by decide) rfl ?_
      obtain ⟨n48, h⟩ := h
      refine j_sub [1, 2, 3, 4, 5, 6, 0] rfl ?_
      exact m_X12_peace_L38 E EU K25 hK25 n48 v0 v1 v2 v3 v4 v5 x47 Z I L hZ hx hc hb kv0 h
set_option maxRecDepth 100000 in
def f_X12_peace (B : Nat × Nat) (v0 : Nat) (Z : jZ) (I : jI) (L : jL) (Q : Int32 → jZ → jI → jL → Prop) : Prop := (∀ I49 : jI, I49 = jpI I v0 22 (0 : Int32) → (f_X12_findAll B v0 Z I49 L (fun Z51 I52 L53 => (∀ x57 : Int32, x57 = (I52 v0 48) → (∃ m25 : Nat, f_X12_peace_L25 B  Q m25 v0 x57 (-2 : Int32) (0 : Int32) (0 : Int32) (0 : Int32) Z51 I52 L53)))))
set_option maxHeartbeats 4000000 in
set_option maxRecDepth 100000 in
theorem c_X12_peace (l : Launch) (D : va_G) (cy : jC) (B : Nat × Nat) (v0 : Nat) (Z : jZ) (I : jI) (L : jL) (Q : Int32 → jZ → jI → jL → Prop) (hZ : SH Z) (hb : jin B Z) (kv0 : jk Z v0 12) (h : f_X12_peace B v0 Z I L Q) : jCtU l yX12_peace w_X12_peace B 108 2610 D cy [.ref v0] Z I L (urtI B Z Q) := by
  refine jCtU_of (cc := cX12_peace) (maxL := 7) (ret := (some .int)) (by decide +kernel) rfl (Nat.le_of_ble_eq_true rfl) ?_
  intro G eD eY eL E EU
  subst eD; subst eY; subst eL
  have E : jE G cX12_peace RX12 w_X12_peace 7 (some .int) (jrm B 108 2610 Z) jRF := E
  have hx : jext Z Z := jext_rfl
  have hc : jle Z Z := jle_rfl
  show jJ G 7 0 [(0, .ref v0)] [] Z I L (jcz Z - jcz Z) (jsz Z - jsz Z)
  refine j_aload_n E dX12_peace_0 0 rfl ?_
  refine j_iconst E (v := 0) dX12_peace_1 (by decide) ?_
  refine j_puti E 12 22 rfl rfl (by decide) (by decide) (iw iT_12) tyX12_ok nmX12 rfl rfl (tw W_690) rfl rfl rfl kv0 dX12_peace_2 ?_
  refine j_nmI (fun I49 eI49 => ?_)
  have h := h I49 eI49
  refine j_aload_n E dX12_peace_5 0 rfl ?_
  refine ju_callV E [] [] (c_X12_findAll (gL G) (gD G) (gY G) B v0 Z I49 L _ hZ hb kv0 h) (gwV W_893 W_894 W_895 W_695 W_892) rfl ⟨rfl, fy_X12_findAll⟩ ⟨Nat.le_of_ble_eq_true rfl, Nat.le_of_ble_eq_true rfl⟩ (c := 12) rfl (by decide) kv0 rfl rfl (Nat.le_of_ble_eq_true rfl) (ju_f hc hb) dX12_peace_6 (fun v50 Z51 I52 L53 q54 j55 => ?_)
  refine ju_next hc j55 ?_
  have hc := jle_trans hc j55
  obtain ⟨yZ51, hZ51, hbZ51, rfl, h⟩ := q54
  have hZ := hZ51
  have hx : jext Z Z51 := jext_trans hx yZ51
  have hb := hbZ51
  have k56 := (yZ51 _ _ kv0).1
  show jJ G 7 9 [(0, .ref v0)] [] Z51 I52 L53 (jcz Z51 - jcz Z) (jsz Z51 - jsz Z)
  refine j_aload_n E dX12_peace_9 0 rfl ?_
  refine j_geti E 12 48 rfl rfl (by decide) (by decide) (iw iT_12) rfl rfl (tw W_889) k56 dX12_peace_10 ?_
  refine j_topi (fun x57 ex57 => ?_)
  have h := h x57 ex57
  refine j_istore_n E 1 [(1, .int x57), (0, .ref v0)] dX12_peace_13 rfl (by decide) rfl ?_
  refine j_bipush E (v := -2) dX12_peace_14 (by decide) ?_
  refine j_istore_n E 2 [(2, .int (-2 : Int32)), (1, .int x57), (0, .ref v0)] dX12_peace_16 rfl (by decide) rfl ?_
  refine j_iconst E (v := 0) dX12_peace_17 (by decide) ?_
  refine j_istore_n E 3 [(3, .int (0 : Int32)), (2, .int (-2 : Int32)), (1, .int x57), (0, .ref v0)] dX12_peace_18 rfl (by decide) rfl ?_
  refine j_iconst E (v := 0) dX12_peace_19 (by decide) ?_
  refine j_istore E 4 [(4, .int (0 : Int32)), (3, .int (0 : Int32)), (2, .int (-2 : Int32)), (1, .int x57), (0, .ref v0)] dX12_peace_20 (by decide) rfl ?_
  refine j_iconst E (v := 0) dX12_peace_22 (by decide) ?_
  refine j_istore E 5 [(5, .int (0 : Int32)), (4, .int (0 : Int32)), (3, .int (0 : Int32)), (2, .int (-2 : Int32)), (1, .int x57), (0, .ref v0)] dX12_peace_23 (by decide) rfl ?_
  obtain ⟨n58, h⟩ := h
  refine j_sub [5, 4, 3, 2, 1, 0] rfl ?_
  exact m_X12_peace_L25 E EU  n58 v0 x57 (-2 : Int32) (0 : Int32) (0 : Int32) (0 : Int32) Z51 I52 L53 hZ hx hc hb k56 h
set_option maxRecDepth 100000 in
def f_X12_lamps_L33  (Z : jZ) (Q : Int32 → jI → jL → Prop) : Nat → Nat → Int32 → Int32 → Int32 → jI → jL → Prop
  | 0 => fun _ _ _ _ _ _ => False
  | n + 1 => fun v0 v1 v2 v3 I L => (((I v0 0) ≤ v3 → Q v2 I L) ∧ (¬ ((I v0 0) ≤ v3) → (∀ x2 : Int32, x2 = (if (v3 + v1) < ((I v0 0) - (1 : Int32)) then (v3 + v1) else ((I v0 0) - (1 : Int32))) → (f_X12_tell v0 (x2.toInt64) Z I L (fun I5 L6 => (∀ x9 : Int32, x9 = ((x2 + v1) + (1 : Int32)) → (∀ x10 : Int32, x10 = v2 + 1 → (f_X12_lamps_L33 Z Q n) v0 v1 x10 x9 I5 L6)))))))
set_option maxHeartbeats 4000000 in
set_option maxRecDepth 100000 in
theorem m_X12_lamps_L33 {G : jG} {Z : jZ} {Q : Int32 → jI → jL → Prop} (E : jE G cX12_lamps RX12 w_X12_lamps 5 (some .int) { frames := 1, cells := 0, slots := 0, locals := 23 } (rtI Z Q)) (hZ : SH Z)  : ∀ (n : Nat) (v0 : Nat) (v1 : Int32) (v2 : Int32) (v3 : Int32) (I : jI) (L : jL), jk Z v0 12 → f_X12_lamps_L33  Z Q n v0 v1 v2 v3 I L → jJ G 5 33 [(0, .ref v0), (1, .int v1), (2, .int v2), (3, .int v3)] [] Z I L 0 0 := by
  intro n
  induction n with
  | zero => intro v0 v1 v2 v3 I L _ h; exact h.elim
  | succ n ih =>
    intro v0 v1 v2 v3 I L kv0 h
    have h : (((I v0 0) ≤ v3 → Q v2 I L) ∧ (¬ ((I v0 0) ≤ v3) → (∀ x2 : Int32, x2 = (if (v3 + v1) < ((I v0 0) - (1 : Int32)) then (v3 + v1) else ((I v0 0) - (1 : Int32))) → (f_X12_tell v0 (x2.toInt64) Z I L (fun I5 L6 => (∀ x9 : Int32, x9 = ((x2 + v1) + (1 : Int32)) → (∀ x10 : Int32, x10 = v2 + 1 → (f_X12_lamps_L33 Z Q n) v0 v1 x10 x9 I5 L6))))))) := h
    obtain ⟨K33, eK33⟩ : ∃ K : Nat → Int32 → Int32 → Int32 → jI → jL → Prop, K = f_X12_lamps_L33  Z Q n := ⟨_, rfl⟩
    have hK33 := ih
    clear eK33 K33
    generalize f_X12_lamps_L33  Z Q n = K33 at hK33 h
    refine j_iload_n E dX12_lamps_33 3 rfl ?_
    refine j_aload_n E dX12_lamps_34 0 rfl ?_
    refine j_geti E 12 0 rfl rfl (by decide) (by decide) (iw iT_12) rfl rfl (tw W_693) kv0 dX12_lamps_35 ?_
    refine j_icmp_ge E 75 dX12_lamps_38 (by decide) (fun c1 => ?_) (fun c1 => ?_)
    · have h := h.1 c1
      refine j_iload_n E dX12_lamps_75 2 rfl ?_
      exact j_ireturn E ⟨rfl, _, rfl, h⟩ (Nat.zero_le _) (Nat.zero_le _) dX12_lamps_76
    · have h := h.2 c1
      refine j_aload_n E dX12_lamps_41 0 rfl ?_
      refine j_geti E 12 0 rfl rfl (by decide) (by decide) (iw iT_12) rfl rfl (tw W_693) kv0 dX12_lamps_42 ?_
      refine j_iconst E (v := 1) dX12_lamps_45 (by decide) ?_
      refine j_isub E dX12_lamps_46 ?_
      refine j_iload_n E dX12_lamps_47 3 rfl ?_
      refine j_iload_n E dX12_lamps_48 1 rfl ?_
      refine j_iadd E dX12_lamps_49 ?_
      refine j_min E (tw W_783) (tw W_7) (tw W_8) (tw W_9) (Nat.le_of_ble_eq_true rfl) (Nat.le_of_ble_eq_true rfl) (Nat.zero_le _) (Nat.zero_le _) dX12_lamps_50 ?_
      refine j_topi (fun x2 ex2 => ?_)
      have h := h x2 ex2
      refine j_istore E 4 [(4, .int x2), (0, .ref v0), (1, .int v1), (2, .int v2), (3, .int v3)] dX12_lamps_53 (by decide) rfl ?_
      refine j_aload_n E dX12_lamps_55 1 rfl ?_
      refine j_iload E dX12_lamps_56 0 rfl ?_
      refine j_i2l E dX12_lamps_58 ?_
      refine j_callV E [.long (x2.toInt64)] [] (c_X12_tell (gL G) (gD G) (gY G) v0 (x2.toInt64) Z I L _ hZ kv0 h) (gwV W_820 W_821 W_822 W_695 W_819) rfl ⟨rfl, fy_X12_tell⟩ ⟨by decide, by decide⟩ (c := 12) rfl (by decide) kv0 rfl rfl (Nat.le_of_ble_eq_true rfl) ⟨Nat.zero_le _, Nat.zero_le _⟩ dX12_lamps_59 (fun v3 Z4 I5 L6 q7 => ?_)
      obtain ⟨rfl, rfl, h⟩ := q7
      show jJ G 5 62 [(4, .int x2), (0, .ref v0), (1, .int v1), (2, .int v2), (3, .int v3)] [] Z I5 L6 0 0
      refine j_iload E dX12_lamps_62 0 rfl ?_
      refine j_iload_n E dX12_lamps_64 2 rfl ?_
      refine j_iadd E dX12_lamps_65 ?_
      refine j_iconst E (v := 1) dX12_lamps_66 (by decide) ?_
      refine j_iadd E dX12_lamps_67 ?_
      refine j_topi (fun x9 ex9 => ?_)
      have h := h x9 ex9
      refine j_istore_n E 3 [(3, .int x9), (4, .int x2), (0, .ref v0), (1, .int v1), (2, .int v2)] dX12_lamps_68 rfl (by decide) rfl ?_
      obtain ⟨x10, ex10⟩ : ∃ y : Int32, y = v2 + 1 := ⟨_, rfl⟩
      have h := h x10 ex10
      refine j_iinc E x10 [(2, .int x10), (3, .int x9), (4, .int x2), (0, .ref v0), (1, .int v1)] dX12_lamps_69 4 rfl (by rw [ex10]; rfl) (by decide) rfl ?_
      refine j_goto E 33 dX12_lamps_72 (by decide) ?_
      refine j_sub [3, 4, 0, 1] rfl ?_
      exact hK33 v0 v1 x10 x9 I5 L6 kv0 h
set_option maxRecDepth 100000 in
def f_X12_lamps (v0 : Nat) (v1 : Int32) (Z : jZ) (I : jI) (L : jL) (Q : Int32 → jI → jL → Prop) : Prop := (∀ I11 : jI, I11 = jpI I v0 22 (0 : Int32) → (((I11 v0 0) = 0 → Q (-1 : Int32) I11 L) ∧ (¬ ((I11 v0 0) = 0) → (f_X12_in v1 (0 : Int32) (23 : Int32) Z I11 L (fun r19 I15 L16 => ((¬ r19 = 0 → (∀ I21 : jI, I21 = jpI I15 v0 21 (0 : Int32) → (∃ m33 : Nat, f_X12_lamps_L33  Z Q m33 v0 v1 (0 : Int32) (0 : Int32) I21 L16))) ∧ (r19 = 0 → Q (-1 : Int32) I15 L16)))))))
set_option maxHeartbeats 4000000 in
set_option maxRecDepth 100000 in
theorem c_X12_lamps (l : Launch) (D : va_G) (cy : jC) (v0 : Nat) (v1 : Int32) (Z : jZ) (I : jI) (L : jL) (Q : Int32 → jI → jL → Prop) (hZ : SH Z) (kv0 : jk Z v0 12) (h : f_X12_lamps v0 v1 Z I L Q) : jCt l yX12_lamps w_X12_lamps { frames := 1, cells := 0, slots := 0, locals := 23 } D cy [.ref v0, .int v1] Z I L (rtI Z Q) := by
  refine jCt_of (cc := cX12_lamps) (maxL := 5) (ret := (some .int)) (by decide +kernel) rfl (Nat.le_of_ble_eq_true rfl) ?_
  intro G eD eY eL E
  subst eD; subst eY; subst eL
  have E : jE G cX12_lamps RX12 w_X12_lamps 5 (some .int) { frames := 1, cells := 0, slots := 0, locals := 23 } (rtI Z Q) := E
  show jJ G 5 0 [(0, .ref v0), (1, .int v1)] [] Z I L 0 0
  refine j_aload_n E dX12_lamps_0 0 rfl ?_
  refine j_iconst E (v := 0) dX12_lamps_1 (by decide) ?_
  refine j_puti E 12 22 rfl rfl (by decide) (by decide) (iw iT_12) tyX12_ok nmX12 rfl rfl (tw W_690) rfl rfl rfl kv0 dX12_lamps_2 ?_
  refine j_nmI (fun I11 eI11 => ?_)
  have h := h I11 eI11
  refine j_aload_n E dX12_lamps_5 0 rfl ?_
  refine j_geti E 12 0 rfl rfl (by decide) (by decide) (iw iT_12) rfl rfl (tw W_693) kv0 dX12_lamps_6 ?_
  refine j_if_eq E 22 dX12_lamps_9 (by decide) (fun c12 => ?_) (fun c12 => ?_)
  · have h := h.1 c12
    refine j_iconst E (v := -1) dX12_lamps_22 (by decide) ?_
    exact j_ireturn E ⟨rfl, _, rfl, h⟩ (Nat.zero_le _) (Nat.zero_le _) dX12_lamps_23
  · have h := h.2 c12
    refine j_iload_n E dX12_lamps_12 1 rfl ?_
    refine j_iconst E (v := 0) dX12_lamps_13 (by decide) ?_
    refine j_bipush E (v := 23) dX12_lamps_14 (by decide) ?_
    refine j_callS E [.int v1, .int (0 : Int32), .int (23 : Int32)] [] (c_X12_in (gL G) (gD G) (gY G) v1 (0 : Int32) (23 : Int32) Z I11 L _ hZ  h) (gwS W_696 W_697 W_695 W_694) rfl fy_X12_in ⟨by decide, by decide⟩ rfl rfl (Nat.le_of_ble_eq_true rfl) ⟨Nat.zero_le _, Nat.zero_le _⟩ dX12_lamps_16 (fun v13 Z14 I15 L16 q17 => ?_)
    obtain ⟨rfl, r19, rfl, zr19, h⟩ := q17
    show jJ G 5 19 [(0, .ref v0), (1, .int v1)] [.int r19] Z I15 L16 0 0
    refine j_if_ne E 24 dX12_lamps_19 (by decide) (fun c20 => ?_) (fun c20 => ?_)
    · have h := h.1 c20
      refine j_aload_n E dX12_lamps_24 0 rfl ?_
      refine j_iconst E (v := 0) dX12_lamps_25 (by decide) ?_
      refine j_puti E 12 21 rfl rfl (by decide) (by decide) (iw iT_12) tyX12_ok nmX12 rfl rfl (tw W_692) rfl rfl rfl kv0 dX12_lamps_26 ?_
      refine j_nmI (fun I21 eI21 => ?_)
      have h := h I21 eI21
      refine j_iconst E (v := 0) dX12_lamps_29 (by decide) ?_
      refine j_istore_n E 2 [(2, .int (0 : Int32)), (0, .ref v0), (1, .int v1)] dX12_lamps_30 rfl (by decide) rfl ?_
      refine j_iconst E (v := 0) dX12_lamps_31 (by decide) ?_
      refine j_istore_n E 3 [(3, .int (0 : Int32)), (2, .int (0 : Int32)), (0, .ref v0), (1, .int v1)] dX12_lamps_32 rfl (by decide) rfl ?_
      obtain ⟨n22, h⟩ := h
      refine j_sub [2, 3, 1, 0] rfl ?_
      exact m_X12_lamps_L33 E hZ  n22 v0 v1 (0 : Int32) (0 : Int32) I21 L16 kv0 h
    · have h := h.2 c20
      refine j_iconst E (v := -1) dX12_lamps_22 (by decide) ?_
      exact j_ireturn E ⟨rfl, _, rfl, h⟩ (Nat.zero_le _) (Nat.zero_le _) dX12_lamps_23
set_option maxRecDepth 100000 in
def f_X12_paidTo_b124 (B : Nat × Nat) (K20 : Nat → Int32 → Int32 → Int32 → Int32 → jZ → jI → jL → Prop) (Q : Int32 → jZ → jI → jL → Prop) (v0 : Nat) (v1 : Int32) (v3 : Int32) (v4 : Int32) (v5 : Int32) (Z : jZ) (I : jI) (L : jL) : Prop := (∀ x1 : Int32, x1 = v5 + 1 → K20 v0 v1 v3 v4 x1 Z I L)
set_option maxHeartbeats 4000000 in
set_option maxRecDepth 100000 in
theorem m_X12_paidTo_b124 {G : jG} {B : Nat × Nat} {Z0 : jZ} {Q : Int32 → jZ → jI → jL → Prop} (E : jE G cX12_paidTo RX12 w_X12_paidTo 9 (some .int) (jrm B 107 2589 Z0) jRF) (EU : jEU G B Z0 (urtI B Z0 Q)) (K20 : Nat → Int32 → Int32 → Int32 → Int32 → jZ → jI → jL → Prop) (hK20 : ∀ (v0 : Nat) (v1 : Int32) (v3 : Int32) (v4 : Int32) (v5 : Int32) (Z : jZ) (I : jI) (L : jL), SH Z → jext Z0 Z → jle Z0 Z → jin B Z → jk Z v0 12 → K20 v0 v1 v3 v4 v5 Z I L → jJ G 9 20 [(0, .ref v0), (1, .int v1), (3, .int v3), (4, .int v4), (5, .int v5)] [] Z I L (jcz Z - jcz Z0) (jsz Z - jsz Z0)) (v0 : Nat) (v1 : Int32) (v3 : Int32) (v4 : Int32) (v5 : Int32) (Z : jZ) (I : jI) (L : jL) (hZ : SH Z) (hx : jext Z0 Z) (hc : jle Z0 Z) (hb : jin B Z) (kv0 : jk Z v0 12) (h : f_X12_paidTo_b124 B K20 Q v0 v1 v3 v4 v5 Z I L) : jJ G 9 124 [(0, .ref v0), (1, .int v1), (3, .int v3), (4, .int v4), (5, .int v5)] [] Z I L (jcz Z - jcz Z0) (jsz Z - jsz Z0) := by
  obtain ⟨x1, ex1⟩ : ∃ y : Int32, y = v5 + 1 := ⟨_, rfl⟩
  have h := h x1 ex1
  refine j_iinc E x1 [(5, .int x1), (0, .ref v0), (1, .int v1), (3, .int v3), (4, .int v4)] dX12_paidTo_124 4 rfl (by rw [ex1]; rfl) (by decide) rfl ?_
  refine j_goto E 20 dX12_paidTo_127 (by decide) ?_
  refine j_sub [1, 2, 3, 4, 0] rfl ?_
  exact hK20 v0 v1 v3 v4 x1 Z I L hZ hx hc hb kv0 h
set_option maxRecDepth 100000 in
def f_X12_paidTo_b114 (B : Nat × Nat) (K20 : Nat → Int32 → Int32 → Int32 → Int32 → jZ → jI → jL → Prop) (K47 : Nat → Int32 → Int32 → Int32 → Int32 → Int32 → Int32 → jZ → jI → jL → Prop) (Q : Int32 → jZ → jI → jL → Prop) (v0 : Nat) (v1 : Int32) (v3 : Int32) (v4 : Int32) (v5 : Int32) (v7 : Int32) (v8 : Int32) (Z : jZ) (I : jI) (L : jL) : Prop := (∀ x2 : Int32, x2 = v7 + 1 → K47 v0 v1 v3 v4 v5 v8 x2 Z I L)
set_option maxHeartbeats 4000000 in
set_option maxRecDepth 100000 in
theorem m_X12_paidTo_b114 {G : jG} {B : Nat × Nat} {Z0 : jZ} {Q : Int32 → jZ → jI → jL → Prop} (E : jE G cX12_paidTo RX12 w_X12_paidTo 9 (some .int) (jrm B 107 2589 Z0) jRF) (EU : jEU G B Z0 (urtI B Z0 Q)) (K20 : Nat → Int32 → Int32 → Int32 → Int32 → jZ → jI → jL → Prop) (hK20 : ∀ (v0 : Nat) (v1 : Int32) (v3 : Int32) (v4 : Int32) (v5 : Int32) (Z : jZ) (I : jI) (L : jL), SH Z → jext Z0 Z → jle Z0 Z → jin B Z → jk Z v0 12 → K20 v0 v1 v3 v4 v5 Z I L → jJ G 9 20 [(0, .ref v0), (1, .int v1), (3, .int v3), (4, .int v4), (5, .int v5)] [] Z I L (jcz Z - jcz Z0) (jsz Z - jsz Z0)) (K47 : Nat → Int32 → Int32 → Int32 → Int32 → Int32 → Int32 → jZ → jI → jL → Prop) (hK47 : ∀ (v0 : Nat) (v1 : Int32) (v3 : Int32) (v4 : Int32) (v5 : Int32) (v6 : Int32) (v7 : Int32) (Z : jZ) (I : jI) (L : jL), SH Z → jext Z0 Z → jle Z0 Z → jin B Z → jk Z v0 12 → K47 v0 v1 v3 v4 v5 v6 v7 Z I L → jJ G 9 47 [(0, .ref v0), (1, .int v1), (3, .int v3), (4, .int v4), (5, .int v5), (6, .int v6), (7, .int v7)] [] Z I L (jcz Z - jcz Z0) (jsz Z - jsz Z0)) (v0 : Nat) (v1 : Int32) (v3 : Int32) (v4 : Int32) (v5 : Int32) (v7 : Int32) (v8 : Int32) (Z : jZ) (I : jI) (L : jL) (hZ : SH Z) (hx : jext Z0 Z) (hc : jle Z0 Z) (hb : jin B Z) (kv0 : jk Z v0 12) (h : f_X12_paidTo_b114 B K20 K47 Q v0 v1 v3 v4 v5 v7 v8 Z I L) : jJ G 9 114 [(0, .ref v0), (1, .int v1), (3, .int v3), (4, .int v4), (5, .int v5), (7, .int v7), (8, .int v8)] [] Z I L (jcz Z - jcz Z0) (jsz Z - jsz Z0) := by
  refine j_iload E dX12_paidTo_114 6 rfl ?_
  refine j_istore E 6 [(6, .int v8), (0, .ref v0), (1, .int v1), (3, .int v3), (4, .int v4), (5, .int v5), (7, .int v7), (8, .int v8)] dX12_paidTo_116 (by decide) rfl ?_
  obtain ⟨x2, ex2⟩ : ∃ y : Int32, y = v7 + 1 := ⟨_, rfl⟩
  have h := h x2 ex2
  refine j_iinc E x2 [(7, .int x2), (6, .int v8), (0, .ref v0), (1, .int v1), (3, .int v3), (4, .int v4), (5, .int v5), (8, .int v8)] dX12_paidTo_118 6 rfl (by rw [ex2]; rfl) (by decide) rfl ?_
  refine j_goto E 47 dX12_paidTo_121 (by decide) ?_
  refine j_sub [2, 3, 4, 5, 6, 1, 0] rfl ?_
  exact hK47 v0 v1 v3 v4 v5 v8 x2 Z I L hZ hx hc hb kv0 h
set_option maxRecDepth 100000 in
def f_X12_paidTo_b91 (B : Nat × Nat) (K20 : Nat → Int32 → Int32 → Int32 → Int32 → jZ → jI → jL → Prop) (K47 : Nat → Int32 → Int32 → Int32 → Int32 → Int32 → Int32 → jZ → jI → jL → Prop) (Q : Int32 → jZ → jI → jL → Prop) (v0 : Nat) (v1 : Int32) (v3 : Int32) (v5 : Int32) (v6 : Int32) (v7 : Int32) (v8 : Int32) (s0 : Int32) (s1 : Nat) (s2 : Int32) (Z : jZ) (I : jI) (L : jL) : Prop := (∀ b3 : Nat, jr Z v0 12 = some b3 → (vp_in v5 6 ∧ (f_X12_lawOf B s1 s2 v1 v6 (I b3 v5.toNatClampNeg) ((v8 - v6) - (1 : Int32)) Z I L (fun r11 Z6 I7 L8 => (∀ x13 : Int32, x13 = (s0 + r11) → f_X12_paidTo_b114 B K20 K47 Q v0 v1 v3 x13 v5 v7 v8 Z6 I7 L8)))))
set_option maxHeartbeats 4000000 in
set_option maxRecDepth 100000 in
theorem m_X12_paidTo_b91 {G : jG} {B : Nat × Nat} {Z0 : jZ} {Q : Int32 → jZ → jI → jL → Prop} (E : jE G cX12_paidTo RX12 w_X12_paidTo 9 (some .int) (jrm B 107 2589 Z0) jRF) (EU : jEU G B Z0 (urtI B Z0 Q)) (K20 : Nat → Int32 → Int32 → Int32 → Int32 → jZ → jI → jL → Prop) (hK20 : ∀ (v0 : Nat) (v1 : Int32) (v3 : Int32) (v4 : Int32) (v5 : Int32) (Z : jZ) (I : jI) (L : jL), SH Z → jext Z0 Z → jle Z0 Z → jin B Z → jk Z v0 12 → K20 v0 v1 v3 v4 v5 Z I L → jJ G 9 20 [(0, .ref v0), (1, .int v1), (3, .int v3), (4, .int v4), (5, .int v5)] [] Z I L (jcz Z - jcz Z0) (jsz Z - jsz Z0)) (K47 : Nat → Int32 → Int32 → Int32 → Int32 → Int32 → Int32 → jZ → jI → jL → Prop) (hK47 : ∀ (v0 : Nat) (v1 : Int32) (v3 : Int32) (v4 : Int32) (v5 : Int32) (v6 : Int32) (v7 : Int32) (Z : jZ) (I : jI) (L : jL), SH Z → jext Z0 Z → jle Z0 Z → jin B Z → jk Z v0 12 → K47 v0 v1 v3 v4 v5 v6 v7 Z I L → jJ G 9 47 [(0, .ref v0), (1, .int v1), (3, .int v3), (4, .int v4), (5, .int v5), (6, .int v6), (7, .int v7)] [] Z I L (jcz Z - jcz Z0) (jsz Z - jsz Z0)) (v0 : Nat) (v1 : Int32) (v3 : Int32) (v5 : Int32) (v6 : Int32) (v7 : Int32) (v8 : Int32) (s0 : Int32) (s1 : Nat) (s2 : Int32) (Z : jZ) (I : jI) (L : jL) (hZ : SH Z) (hx : jext Z0 Z) (hc : jle Z0 Z) (hb : jin B Z) (kv0 : jk Z v0 12) (ks1 : jk Z s1 12) (h : f_X12_paidTo_b91 B K20 K47 Q v0 v1 v3 v5 v6 v7 v8 s0 s1 s2 Z I L) : jJ G 9 91 [(0, .ref v0), (1, .int v1), (3, .int v3), (5, .int v5), (6, .int v6), (7, .int v7), (8, .int v8)] [.int s2, .ref s1, .int s0] Z I L (jcz Z - jcz Z0) (jsz Z - jsz Z0) := by
  refine j_iload_n E dX12_paidTo_91 1 rfl ?_
  refine j_iload E dX12_paidTo_92 4 rfl ?_
  refine j_aload_n E dX12_paidTo_94 0 rfl ?_
  obtain ⟨b3, eb3, kb3, lb3⟩ := sh_f hZ kv0 (j := 12) (k := 14) (m := 6) rfl
  have h := h b3 eb3
  refine j_getr E 12 12 rfl rfl (by decide) (by decide) (iw iT_12) rfl rfl (tw W_801) kv0 eb3 dX12_paidTo_95 ?_
  refine j_iload E dX12_paidTo_98 3 rfl ?_
  obtain ⟨o4, h⟩ := h
  refine j_iald E kb3 (by rw [lb3]; exact o4) dX12_paidTo_100 ?_
  refine j_iload E dX12_paidTo_101 6 rfl ?_
  refine j_iload E dX12_paidTo_103 4 rfl ?_
  refine j_isub E dX12_paidTo_105 ?_
  refine j_iconst E (v := 1) dX12_paidTo_106 (by decide) ?_
  refine j_isub E dX12_paidTo_107 ?_
  refine ju_callV E [.int s2, .int v1, .int v6, .int (I b3 v5.toNatClampNeg), .int ((v8 - v6) - (1 : Int32))] [.int s0] (c_X12_lawOf (gL G) (gD G) (gY G) B s1 s2 v1 v6 (I b3 v5.toNatClampNeg) ((v8 - v6) - (1 : Int32)) Z I L _ hZ hb ks1 h) (gwV W_808 W_809 W_810 W_695 W_807) rfl ⟨rfl, fy_X12_lawOf⟩ ⟨Nat.le_of_ble_eq_true rfl, Nat.le_of_ble_eq_true rfl⟩ (c := 12) rfl (by decide) ks1 rfl rfl (Nat.le_of_ble_eq_true rfl) (ju_f hc hb) dX12_paidTo_108 (fun v5 Z6 I7 L8 q9 j10 => ?_)
  refine ju_next hc j10 ?_
  have hc := jle_trans hc j10
  obtain ⟨yZ6, hZ6, hbZ6, r11, rfl, h⟩ := q9
  have hZ := hZ6
  have hx : jext Z0 Z6 := jext_trans hx yZ6
  have hb := hbZ6
  have k12 := (yZ6 _ _ kv0).1
  show jJ G 9 111 [(0, .ref v0), (1, .int v1), (3, .int v3), (5, .int v5), (6, .int v6), (7, .int v7), (8, .int v8)] [.int r11, .int s0] Z6 I7 L8 (jcz Z6 - jcz Z0) (jsz Z6 - jsz Z0)
  refine j_iadd E dX12_paidTo_111 ?_
  refine j_topi (fun x13 ex13 => ?_)
  have h := h x13 ex13
  refine j_istore E 4 [(4, .int x13), (0, .ref v0), (1, .int v1), (3, .int v3), (5, .int v5), (6, .int v6), (7, .int v7), (8, .int v8)] dX12_paidTo_112 (by decide) rfl ?_
  refine j_sub [1, 2, 3, 0, 4, 6, 7] rfl ?_
  exact m_X12_paidTo_b114 E EU K20 hK20 K47 hK47 v0 v1 v3 x13 v5 v7 v8 Z6 I7 L8 hZ hx hc hb k12 h
set_option maxRecDepth 100000 in
def f_X12_paidTo_L47 (B : Nat × Nat) (K20 : Nat → Int32 → Int32 → Int32 → Int32 → jZ → jI → jL → Prop) (Q : Int32 → jZ → jI → jL → Prop) : Nat → Nat → Int32 → Int32 → Int32 → Int32 → Int32 → Int32 → jZ → jI → jL → Prop
  | 0 => fun _ _ _ _ _ _ _ _ _ _ => False
  | n + 1 => fun v0 v1 v3 v4 v5 v6 v7 Z I L => (((I v0 43) ≤ v7 → f_X12_paidTo_b124 B K20 Q v0 v1 v3 v4 v5 Z I L) ∧ (¬ ((I v0 43) ≤ v7) → (∀ b15 : Nat, jr Z v0 44 = some b15 → (vp_in v7 24 ∧ (∀ x17 : Int32, x17 = (I b15 v7.toNatClampNeg) → ((v1 ≤ v6 → f_X12_paidTo_b114 B K20 (f_X12_paidTo_L47 B K20 Q n) Q v0 v1 v3 v4 v5 v7 x17 Z I L) ∧ (¬ (v1 ≤ v6) → ((x17 < v1 → f_X12_paidTo_b114 B K20 (f_X12_paidTo_L47 B K20 Q n) Q v0 v1 v3 v4 v5 v7 x17 Z I L) ∧ (¬ (x17 < v1) → ((¬ v1 = x17 → f_X12_paidTo_b91 B K20 (f_X12_paidTo_L47 B K20 Q n) Q v0 v1 v3 v5 v6 v7 x17 v4 v0 (1 : Int32) Z I L) ∧ (v1 = x17 → f_X12_paidTo_b91 B K20 (f_X12_paidTo_L47 B K20 Q n) Q v0 v1 v3 v5 v6 v7 x17 v4 v0 (0 : Int32) Z I L)))))))))))
set_option maxHeartbeats 4000000 in
set_option maxRecDepth 100000 in
theorem m_X12_paidTo_L47 {G : jG} {Z0 : jZ} {B : Nat × Nat} {Q : Int32 → jZ → jI → jL → Prop} (E : jE G cX12_paidTo RX12 w_X12_paidTo 9 (some .int) (jrm B 107 2589 Z0) jRF) (EU : jEU G B Z0 (urtI B Z0 Q)) (K20 : Nat → Int32 → Int32 → Int32 → Int32 → jZ → jI → jL → Prop) (hK20 : ∀ (v0 : Nat) (v1 : Int32) (v3 : Int32) (v4 : Int32) (v5 : Int32) (Z : jZ) (I : jI) (L : jL), SH Z → jext Z0 Z → jle Z0 Z → jin B Z → jk Z v0 12 → K20 v0 v1 v3 v4 v5 Z I L → jJ G 9 20 [(0, .ref v0), (1, .int v1), (3, .int v3), (4, .int v4), (5, .int v5)] [] Z I L (jcz Z - jcz Z0) (jsz Z - jsz Z0)) : ∀ (n : Nat) (v0 : Nat) (v1 : Int32) (v3 : Int32) (v4 : Int32) (v5 : Int32) (v6 : Int32) (v7 : Int32) (Z : jZ) (I : jI) (L : jL), SH Z → jext Z0 Z → jle Z0 Z → jin B Z → jk Z v0 12 → f_X12_paidTo_L47 B K20 Q n v0 v1 v3 v4 v5 v6 v7 Z I L → jJ G 9 47 [(0, .ref v0), (1, .int v1), (3, .int v3), (4, .int v4), (5, .int v5), (6, .int v6), (7, .int v7)] [] Z I L (jcz Z - jcz Z0) (jsz Z - jsz Z0) := by
  intro n
  induction n with
  | zero => intro v0 v1 v3 v4 v5 v6 v7 Z I L _ _ _ _ _ h; exact h.elim
  | succ n ih =>
    intro v0 v1 v3 v4 v5 v6 v7 Z I L hZ hx hc hb kv0 h
    have h : (((I v0 43) ≤ v7 → f_X12_paidTo_b124 B K20 Q v0 v1 v3 v4 v5 Z I L) ∧ (¬ ((I v0 43) ≤ v7) → (∀ b15 : Nat, jr Z v0 44 = some b15 → (vp_in v7 24 ∧ (∀ x17 : Int32, x17 = (I b15 v7.toNatClampNeg) → ((v1 ≤ v6 → f_X12_paidTo_b114 B K20 (f_X12_paidTo_L47 B K20 Q n) Q v0 v1 v3 v4 v5 v7 x17 Z I L) ∧ (¬ (v1 ≤ v6) → ((x17 < v1 → f_X12_paidTo_b114 B K20 (f_X12_paidTo_L47 B K20 Q n) Q v0 v1 v3 v4 v5 v7 x17 Z I L) ∧ (¬ (x17 < v1) → ((¬ v1 = x17 → f_X12_paidTo_b91 B K20 (f_X12_paidTo_L47 B K20 Q n) Q v0 v1 v3 v5 v6 v7 x17 v4 v0 (1 : Int32) Z I L) ∧ (v1 = x17 → f_X12_paidTo_b91 B K20 (f_X12_paidTo_L47 B K20 Q n) Q v0 v1 v3 v5 v6 v7 x17 v4 v0 (0 : Int32) Z I L))))))))))) := h
    obtain ⟨K47, eK47⟩ : ∃ K : Nat → Int32 → Int32 → Int32 → Int32 → Int32 → Int32 → jZ → jI → jL → Prop, K = f_X12_paidTo_L47 B K20 Q n := ⟨_, rfl⟩
    have hK47 := ih
    clear eK47 K47
    generalize f_X12_paidTo_L47 B K20 Q n = K47 at hK47 h
    refine j_iload E dX12_paidTo_47 6 rfl ?_
    refine j_aload_n E dX12_paidTo_49 0 rfl ?_
    refine j_geti E 12 43 rfl rfl (by decide) (by decide) (iw iT_12) rfl rfl (tw W_852) kv0 dX12_paidTo_50 ?_
    refine j_icmp_ge E 124 dX12_paidTo_53 (by decide) (fun c14 => ?_) (fun c14 => ?_)
    · have h := h.1 c14
      refine j_sub [0, 1, 2, 3, 4] rfl ?_
      exact m_X12_paidTo_b124 E EU K20 hK20 v0 v1 v3 v4 v5 Z I L hZ hx hc hb kv0 h
    · have h := h.2 c14
      refine j_aload_n E dX12_paidTo_56 0 rfl ?_
      obtain ⟨b15, eb15, kb15, lb15⟩ := sh_f hZ kv0 (j := 44) (k := 14) (m := 24) rfl
      have h := h b15 eb15
      refine j_getr E 12 44 rfl rfl (by decide) (by decide) (iw iT_12) rfl rfl (tw W_851) kv0 eb15 dX12_paidTo_57 ?_
      refine j_iload E dX12_paidTo_60 6 rfl ?_
      obtain ⟨o16, h⟩ := h
      refine j_iald E kb15 (by rw [lb15]; exact o16) dX12_paidTo_62 ?_
      refine j_topi (fun x17 ex17 => ?_)
      have h := h x17 ex17
      refine j_istore E 8 [(8, .int x17), (0, .ref v0), (1, .int v1), (3, .int v3), (4, .int v4), (5, .int v5), (6, .int v6), (7, .int v7)] dX12_paidTo_63 (by decide) rfl ?_
      refine j_iload_n E dX12_paidTo_65 2 rfl ?_
      refine j_iload E dX12_paidTo_66 6 rfl ?_
      refine j_icmp_le E 114 dX12_paidTo_68 (by decide) (fun c18 => ?_) (fun c18 => ?_)
      · have h := h.1 c18
        refine j_sub [1, 2, 3, 4, 5, 7, 0] rfl ?_
        exact m_X12_paidTo_b114 E EU K20 hK20 K47 hK47 v0 v1 v3 v4 v5 v7 x17 Z I L hZ hx hc hb kv0 h
      · have h := h.2 c18
        refine j_iload_n E dX12_paidTo_71 2 rfl ?_
        refine j_iload E dX12_paidTo_72 0 rfl ?_
        refine j_icmp_gt E 114 dX12_paidTo_74 (by decide) (fun c19 => ?_) (fun c19 => ?_)
        · have h := h.1 c19
          refine j_sub [1, 2, 3, 4, 5, 7, 0] rfl ?_
          exact m_X12_paidTo_b114 E EU K20 hK20 K47 hK47 v0 v1 v3 v4 v5 v7 x17 Z I L hZ hx hc hb kv0 h
        · have h := h.2 c19
          refine j_iload E dX12_paidTo_77 4 rfl ?_
          refine j_aload_n E dX12_paidTo_79 1 rfl ?_
          refine j_iload_n E dX12_paidTo_80 2 rfl ?_
          refine j_iload E dX12_paidTo_81 0 rfl ?_
          refine j_icmp_ne E 90 dX12_paidTo_83 (by decide) (fun c20 => ?_) (fun c20 => ?_)
          · have h := h.1 c20
            refine j_iconst E (v := 1) dX12_paidTo_90 (by decide) ?_
            refine j_sub [1, 2, 3, 5, 6, 7, 0] rfl ?_
            exact m_X12_paidTo_b91 E EU K20 hK20 K47 hK47 v0 v1 v3 v5 v6 v7 x17 v4 v0 (1 : Int32) Z I L hZ hx hc hb kv0 kv0 h
          · have h := h.2 c20
            refine j_iconst E (v := 0) dX12_paidTo_86 (by decide) ?_
            refine j_goto E 91 dX12_paidTo_87 (by decide) ?_
            refine j_sub [1, 2, 3, 5, 6, 7, 0] rfl ?_
            exact m_X12_paidTo_b91 E EU K20 hK20 K47 hK47 v0 v1 v3 v5 v6 v7 x17 v4 v0 (0 : Int32) Z I L hZ hx hc hb kv0 kv0 h
set_option maxRecDepth 100000 in
def f_X12_paidTo_L20 (B : Nat × Nat)  (Q : Int32 → jZ → jI → jL → Prop) : Nat → Nat → Int32 → Int32 → Int32 → Int32 → jZ → jI → jL → Prop
  | 0 => fun _ _ _ _ _ _ _ _ => False
  | n + 1 => fun v0 v1 v3 v4 v5 Z I L => (((I v0 8) ≤ v5 → (∀ b22 : Nat, jr Z v0 3 = some b22 → (vp_in v1 24 ∧ (∀ I24 : jI, I24 = jpI I b22 v1.toNatClampNeg v3 → Q v4 Z I24 L)))) ∧ (¬ ((I v0 8) ≤ v5) → (f_X12_findClimb B v0 v5 Z I L (fun r31 Z26 I27 L28 => ((¬ r31 = 0 → (∃ m47 : Nat, f_X12_paidTo_L47 B (f_X12_paidTo_L20 B Q n) Q m47 v0 v1 v3 v4 v5 (-1 : Int32) (0 : Int32) Z26 I27 L28)) ∧ (r31 = 0 → f_X12_paidTo_b124 B (f_X12_paidTo_L20 B Q n) Q v0 v1 v3 v4 v5 Z26 I27 L28))))))
set_option maxHeartbeats 4000000 in
set_option maxRecDepth 100000 in
theorem m_X12_paidTo_L20 {G : jG} {Z0 : jZ} {B : Nat × Nat} {Q : Int32 → jZ → jI → jL → Prop} (E : jE G cX12_paidTo RX12 w_X12_paidTo 9 (some .int) (jrm B 107 2589 Z0) jRF) (EU : jEU G B Z0 (urtI B Z0 Q))  : ∀ (n : Nat) (v0 : Nat) (v1 : Int32) (v3 : Int32) (v4 : Int32) (v5 : Int32) (Z : jZ) (I : jI) (L : jL), SH Z → jext Z0 Z → jle Z0 Z → jin B Z → jk Z v0 12 → f_X12_paidTo_L20 B  Q n v0 v1 v3 v4 v5 Z I L → jJ G 9 20 [(0, .ref v0), (1, .int v1), (3, .int v3), (4, .int v4), (5, .int v5)] [] Z I L (jcz Z - jcz Z0) (jsz Z - jsz Z0) := by
  intro n
  induction n with
  | zero => intro v0 v1 v3 v4 v5 Z I L _ _ _ _ _ h; exact h.elim
  | succ n ih =>
    intro v0 v1 v3 v4 v5 Z I L hZ hx hc hb kv0 h
    have h : (((I v0 8) ≤ v5 → (∀ b22 : Nat, jr Z v0 3 = some b22 → (vp_in v1 24 ∧ (∀ I24 : jI, I24 = jpI I b22 v1.toNatClampNeg v3 → Q v4 Z I24 L)))) ∧ (¬ ((I v0 8) ≤ v5) → (f_X12_findClimb B v0 v5 Z I L (fun r31 Z26 I27 L28 => ((¬ r31 = 0 → (∃ m47 : Nat, f_X12_paidTo_L47 B (f_X12_paidTo_L20 B Q n) Q m47 v0 v1 v3 v4 v5 (-1 : Int32) (0 : Int32) Z26 I27 L28)) ∧ (r31 = 0 → f_X12_paidTo_b124 B (f_X12_paidTo_L20 B Q n) Q v0 v1 v3 v4 v5 Z26 I27 L28)))))) := h
    obtain ⟨K20, eK20⟩ : ∃ K : Nat → Int32 → Int32 → Int32 → Int32 → jZ → jI → jL → Prop, K = f_X12_paidTo_L20 B  Q n := ⟨_, rfl⟩
    have hK20 := ih
    clear eK20 K20
    generalize f_X12_paidTo_L20 B  Q n = K20 at hK20 h
    refine j_iload E dX12_paidTo_20 4 rfl ?_
    refine j_aload_n E dX12_paidTo_22 0 rfl ?_
    refine j_geti E 12 8 rfl rfl (by decide) (by decide) (iw iT_12) rfl rfl (tw W_698) kv0 dX12_paidTo_23 ?_
    refine j_icmp_ge E 130 dX12_paidTo_26 (by decide) (fun c21 => ?_) (fun c21 => ?_)
    · have h := h.1 c21
      refine j_aload_n E dX12_paidTo_130 0 rfl ?_
      obtain ⟨b22, eb22, kb22, lb22⟩ := sh_f hZ kv0 (j := 3) (k := 14) (m := 24) rfl
      have h := h b22 eb22
      refine j_getr E 12 3 rfl rfl (by decide) (by decide) (iw iT_12) rfl rfl (tw W_743) kv0 eb22 dX12_paidTo_131 ?_
      refine j_iload_n E dX12_paidTo_134 1 rfl ?_
      refine j_iload_n E dX12_paidTo_135 2 rfl ?_
      obtain ⟨o23, h⟩ := h
      refine j_iast E kb22 (by rw [lb22]; exact o23) dX12_paidTo_136 ?_
      refine j_nmI (fun I24 eI24 => ?_)
      have h := h I24 eI24
      refine j_iload E dX12_paidTo_137 3 rfl ?_
      exact ju_ireturn E EU hc hb ⟨hx, hZ, hb, _, rfl, h⟩ dX12_paidTo_139
    · have h := h.2 c21
      refine j_aload_n E dX12_paidTo_29 0 rfl ?_
      refine j_iload E dX12_paidTo_30 4 rfl ?_
      refine ju_callV E [.int v5] [] (c_X12_findClimb (gL G) (gD G) (gY G) B v0 v5 Z I L _ hZ hb kv0 h) (gwV W_864 W_865 W_866 W_695 W_863) rfl ⟨rfl, fy_X12_findClimb⟩ ⟨Nat.le_of_ble_eq_true rfl, Nat.le_of_ble_eq_true rfl⟩ (c := 12) rfl (by decide) kv0 rfl rfl (Nat.le_of_ble_eq_true rfl) (ju_f hc hb) dX12_paidTo_32 (fun v25 Z26 I27 L28 q29 j30 => ?_)
      refine ju_next hc j30 ?_
      have hc := jle_trans hc j30
      obtain ⟨yZ26, hZ26, hbZ26, r31, rfl, zr31, h⟩ := q29
      have hZ := hZ26
      have hx : jext Z0 Z26 := jext_trans hx yZ26
      have hb := hbZ26
      have k32 := (yZ26 _ _ kv0).1
      show jJ G 9 35 [(0, .ref v0), (1, .int v1), (3, .int v3), (4, .int v4), (5, .int v5)] [.int r31] Z26 I27 L28 (jcz Z26 - jcz Z0) (jsz Z26 - jsz Z0)
      refine j_if_ne E 41 dX12_paidTo_35 (by decide) (fun c33 => ?_) (fun c33 => ?_)
      · have h := h.1 c33
        refine j_iconst E (v := -1) dX12_paidTo_41 (by decide) ?_
        refine j_istore E 6 [(6, .int (-1 : Int32)), (0, .ref v0), (1, .int v1), (3, .int v3), (4, .int v4), (5, .int v5)] dX12_paidTo_42 (by decide) rfl ?_
        refine j_iconst E (v := 0) dX12_paidTo_44 (by decide) ?_
        refine j_istore E 7 [(7, .int (0 : Int32)), (6, .int (-1 : Int32)), (0, .ref v0), (1, .int v1), (3, .int v3), (4, .int v4), (5, .int v5)] dX12_paidTo_45 (by decide) rfl ?_
        obtain ⟨n34, h⟩ := h
        refine j_sub [2, 3, 4, 5, 6, 1, 0] rfl ?_
        exact m_X12_paidTo_L47 E EU K20 hK20 n34 v0 v1 v3 v4 v5 (-1 : Int32) (0 : Int32) Z26 I27 L28 hZ hx hc hb k32 h
      · have h := h.2 c33
        refine j_goto E 124 dX12_paidTo_38 (by decide) ?_
        refine j_sub [0, 1, 2, 3, 4] rfl ?_
        exact m_X12_paidTo_b124 E EU K20 hK20 v0 v1 v3 v4 v5 Z26 I27 L28 hZ hx hc hb k32 h
set_option maxRecDepth 100000 in
def f_X12_paidTo (B : Nat × Nat) (v0 : Nat) (v1 : Int32) (v2 : Int32) (Z : jZ) (I : jI) (L : jL) (Q : Int32 → jZ → jI → jL → Prop) : Prop := (∀ b35 : Nat, jr Z v0 3 = some b35 → (vp_in v1 24 ∧ (∀ x37 : Int32, x37 = (I b35 v1.toNatClampNeg) → (∀ b38 : Nat, jr Z v0 3 = some b38 → (vp_in v1 24 ∧ (∀ I40 : jI, I40 = jpI I b38 v1.toNatClampNeg v2 → (∃ m20 : Nat, f_X12_paidTo_L20 B  Q m20 v0 v1 x37 (0 : Int32) (0 : Int32) Z I40 L)))))))
set_option maxHeartbeats 4000000 in
set_option maxRecDepth 100000 in
theorem c_X12_paidTo (l : Launch) (D : va_G) (cy : jC) (B : Nat × Nat) (v0 : Nat) (v1 : Int32) (v2 : Int32) (Z : jZ) (I : jI) (L : jL) (Q : Int32 → jZ → jI → jL → Prop) (hZ : SH Z) (hb : jin B Z) (kv0 : jk Z v0 12) (h : f_X12_paidTo B v0 v1 v2 Z I L Q) : jCtU l yX12_paidTo w_X12_paidTo B 107 2589 D cy [.ref v0, .int v1, .int v2] Z I L (urtI B Z Q) := by
  refine jCtU_of (cc := cX12_paidTo) (maxL := 9) (ret := (some .int)) (by decide +kernel) rfl (Nat.le_of_ble_eq_true rfl) ?_
  intro G eD eY eL E EU
  subst eD; subst eY; subst eL
  have E : jE G cX12_paidTo RX12 w_X12_paidTo 9 (some .int) (jrm B 107 2589 Z) jRF := E
  have hx : jext Z Z := jext_rfl
  have hc : jle Z Z := jle_rfl
  show jJ G 9 0 [(0, .ref v0), (1, .int v1), (2, .int v2)] [] Z I L (jcz Z - jcz Z) (jsz Z - jsz Z)
  refine j_aload_n E dX12_paidTo_0 0 rfl ?_
  obtain ⟨b35, eb35, kb35, lb35⟩ := sh_f hZ kv0 (j := 3) (k := 14) (m := 24) rfl
  have h := h b35 eb35
  refine j_getr E 12 3 rfl rfl (by decide) (by decide) (iw iT_12) rfl rfl (tw W_743) kv0 eb35 dX12_paidTo_1 ?_
  refine j_iload_n E dX12_paidTo_4 1 rfl ?_
  obtain ⟨o36, h⟩ := h
  refine j_iald E kb35 (by rw [lb35]; exact o36) dX12_paidTo_5 ?_
  refine j_topi (fun x37 ex37 => ?_)
  have h := h x37 ex37
  refine j_istore_n E 3 [(3, .int x37), (0, .ref v0), (1, .int v1), (2, .int v2)] dX12_paidTo_6 rfl (by decide) rfl ?_
  refine j_aload_n E dX12_paidTo_7 1 rfl ?_
  obtain ⟨b38, eb38, kb38, lb38⟩ := sh_f hZ kv0 (j := 3) (k := 14) (m := 24) rfl
  have h := h b38 eb38
  refine j_getr E 12 3 rfl rfl (by decide) (by decide) (iw iT_12) rfl rfl (tw W_743) kv0 eb38 dX12_paidTo_8 ?_
  refine j_iload_n E dX12_paidTo_11 2 rfl ?_
  refine j_iload_n E dX12_paidTo_12 3 rfl ?_
  obtain ⟨o39, h⟩ := h
  refine j_iast E kb38 (by rw [lb38]; exact o39) dX12_paidTo_13 ?_
  refine j_nmI (fun I40 eI40 => ?_)
  have h := h I40 eI40
  refine j_iconst E (v := 0) dX12_paidTo_14 (by decide) ?_
  refine j_istore E 4 [(4, .int (0 : Int32)), (3, .int x37), (0, .ref v0), (1, .int v1), (2, .int v2)] dX12_paidTo_15 (by decide) rfl ?_
  refine j_iconst E (v := 0) dX12_paidTo_17 (by decide) ?_
  refine j_istore E 5 [(5, .int (0 : Int32)), (4, .int (0 : Int32)), (3, .int x37), (0, .ref v0), (1, .int v1), (2, .int v2)] dX12_paidTo_18 (by decide) rfl ?_
  obtain ⟨n41, h⟩ := h
  refine j_sub [3, 4, 2, 1, 0] rfl ?_
  exact m_X12_paidTo_L20 E EU  n41 v0 v1 x37 (0 : Int32) (0 : Int32) Z I40 L hZ hx hc hb kv0 h
set_option maxRecDepth 100000 in
def f_X12_would (B : Nat × Nat) (v0 : Nat) (v1 : Int32) (v2 : Int32) (Z : jZ) (I : jI) (L : jL) (Q : Int32 → jZ → jI → jL → Prop) : Prop := (∀ I1 : jI, I1 = jpI I v0 22 (0 : Int32) → (f_X12_isStep v0 v1 Z I1 L (fun r8 I4 L5 => ((r8 = 0 → Q (-1 : Int32) Z I4 L5) ∧ (¬ (r8 = 0) → (f_X12_in v2 (0 : Int32) (20 : Int32) Z I4 L5 (fun r16 I12 L13 => ((r16 = 0 → Q (-1 : Int32) Z I12 L13) ∧ (¬ (r16 = 0) → (f_X12_paidTo B v0 v1 v2 Z I12 L13 (fun r24 Z19 I20 L21 => Q r24 Z19 I20 L21)))))))))))
set_option maxHeartbeats 4000000 in
set_option maxRecDepth 100000 in
theorem c_X12_would (l : Launch) (D : va_G) (cy : jC) (B : Nat × Nat) (v0 : Nat) (v1 : Int32) (v2 : Int32) (Z : jZ) (I : jI) (L : jL) (Q : Int32 → jZ → jI → jL → Prop) (hZ : SH Z) (hb : jin B Z) (kv0 : jk Z v0 12) (h : f_X12_would B v0 v1 v2 Z I L Q) : jCtU l yX12_would w_X12_would B 108 2617 D cy [.ref v0, .int v1, .int v2] Z I L (urtI B Z Q) := by
  refine jCtU_of (cc := cX12_would) (maxL := 3) (ret := (some .int)) (by decide +kernel) rfl (Nat.le_of_ble_eq_true rfl) ?_
  intro G eD eY eL E EU
  subst eD; subst eY; subst eL
  have E : jE G cX12_would RX12 w_X12_would 3 (some .int) (jrm B 108 2617 Z) jRF := E
  have hx : jext Z Z := jext_rfl
  have hc : jle Z Z := jle_rfl
  show jJ G 3 0 [(0, .ref v0), (1, .int v1), (2, .int v2)] [] Z I L (jcz Z - jcz Z) (jsz Z - jsz Z)
  refine j_aload_n E dX12_would_0 0 rfl ?_
  refine j_iconst E (v := 0) dX12_would_1 (by decide) ?_
  refine j_puti E 12 22 rfl rfl (by decide) (by decide) (iw iT_12) tyX12_ok nmX12 rfl rfl (tw W_690) rfl rfl rfl kv0 dX12_would_2 ?_
  refine j_nmI (fun I1 eI1 => ?_)
  have h := h I1 eI1
  refine j_aload_n E dX12_would_5 0 rfl ?_
  refine j_iload_n E dX12_would_6 1 rfl ?_
  refine j_callV E [.int v1] [] (c_X12_isStep (gL G) (gD G) (gY G) v0 v1 Z I1 L _ hZ kv0 h) (gwV W_790 W_791 W_792 W_695 W_789) rfl ⟨rfl, fy_X12_isStep⟩ ⟨Nat.le_of_ble_eq_true rfl, Nat.le_of_ble_eq_true rfl⟩ (c := 12) rfl (by decide) kv0 rfl rfl (Nat.le_of_ble_eq_true rfl) (ju_kn hb) dX12_would_7 (fun v2 Z3 I4 L5 q6 => ?_)
  obtain ⟨rfl, r8, rfl, zr8, h⟩ := q6
  show jJ G 3 10 [(0, .ref v0), (1, .int v1), (2, .int v2)] [.int r8] Z I4 L5 (jcz Z - jcz Z) (jsz Z - jsz Z)
  refine j_if_eq E 32 dX12_would_10 (by decide) (fun c9 => ?_) (fun c9 => ?_)
  · have h := h.1 c9
    refine j_iconst E (v := -1) dX12_would_32 (by decide) ?_
    exact ju_ireturn E EU hc hb ⟨hx, hZ, hb, _, rfl, h⟩ dX12_would_33
  · have h := h.2 c9
    refine j_iload_n E dX12_would_13 2 rfl ?_
    refine j_iconst E (v := 0) dX12_would_14 (by decide) ?_
    refine j_bipush E (v := 20) dX12_would_15 (by decide) ?_
    refine j_callS E [.int v2, .int (0 : Int32), .int (20 : Int32)] [] (c_X12_in (gL G) (gD G) (gY G) v2 (0 : Int32) (20 : Int32) Z I4 L5 _ hZ  h) (gwS W_696 W_697 W_695 W_694) rfl fy_X12_in ⟨Nat.le_of_ble_eq_true rfl, Nat.le_of_ble_eq_true rfl⟩ rfl rfl (Nat.le_of_ble_eq_true rfl) (ju_kn hb) dX12_would_17 (fun v10 Z11 I12 L13 q14 => ?_)
    obtain ⟨rfl, r16, rfl, zr16, h⟩ := q14
    show jJ G 3 20 [(0, .ref v0), (1, .int v1), (2, .int v2)] [.int r16] Z I12 L13 (jcz Z - jcz Z) (jsz Z - jsz Z)
    refine j_if_eq E 32 dX12_would_20 (by decide) (fun c17 => ?_) (fun c17 => ?_)
    · have h := h.1 c17
      refine j_iconst E (v := -1) dX12_would_32 (by decide) ?_
      exact ju_ireturn E EU hc hb ⟨hx, hZ, hb, _, rfl, h⟩ dX12_would_33
    · have h := h.2 c17
      refine j_aload_n E dX12_would_23 0 rfl ?_
      refine j_iload_n E dX12_would_24 1 rfl ?_
      refine j_iload_n E dX12_would_25 2 rfl ?_
      refine ju_callV E [.int v1, .int v2] [] (c_X12_paidTo (gL G) (gD G) (gY G) B v0 v1 v2 Z I12 L13 _ hZ hb kv0 h) (gwV W_901 W_902 W_903 W_695 W_900) rfl ⟨rfl, fy_X12_paidTo⟩ ⟨Nat.le_of_ble_eq_true rfl, Nat.le_of_ble_eq_true rfl⟩ (c := 12) rfl (by decide) kv0 rfl rfl (Nat.le_of_ble_eq_true rfl) (ju_f hc hb) dX12_would_26 (fun v18 Z19 I20 L21 q22 j23 => ?_)
      refine ju_next hc j23 ?_
      have hc := jle_trans hc j23
      obtain ⟨yZ19, hZ19, hbZ19, r24, rfl, h⟩ := q22
      have hZ := hZ19
      have hx : jext Z Z19 := jext_trans hx yZ19
      have hb := hbZ19
      have k25 := (yZ19 _ _ kv0).1
      show jJ G 3 29 [(0, .ref v0), (1, .int v1), (2, .int v2)] [.int r24] Z19 I20 L21 (jcz Z19 - jcz Z) (jsz Z19 - jsz Z)
      refine j_goto E 33 dX12_would_29 (by decide) ?_
      exact ju_ireturn E EU hc hb ⟨hx, hZ, hb, _, rfl, h⟩ dX12_would_33
set_option maxRecDepth 100000 in
def f_X12_findBest_b48 (B : Nat × Nat) (K14 : Nat → Int32 → Int32 → Int32 → jZ → jI → jL → Prop) (Q : Int32 → jZ → jI → jL → Prop) (v0 : Nat) (v1 : Int32) (v2 : Int32) (v3 : Int32) (Z : jZ) (I : jI) (L : jL) : Prop := (∀ x1 : Int32, x1 = v3 + 1 → K14 v0 v1 v2 x1 Z I L)
set_option maxHeartbeats 4000000 in
set_option maxRecDepth 100000 in
theorem m_X12_findBest_b48 {G : jG} {B : Nat × Nat} {Z0 : jZ} {Q : Int32 → jZ → jI → jL → Prop} (E : jE G cX12_findBest RX12 w_X12_findBest 5 (some .int) (jrm B 108 2617 Z0) jRF) (EU : jEU G B Z0 (urtI B Z0 Q)) (K14 : Nat → Int32 → Int32 → Int32 → jZ → jI → jL → Prop) (hK14 : ∀ (v0 : Nat) (v1 : Int32) (v2 : Int32) (v3 : Int32) (Z : jZ) (I : jI) (L : jL), SH Z → jext Z0 Z → jle Z0 Z → jin B Z → jk Z v0 12 → K14 v0 v1 v2 v3 Z I L → jJ G 5 14 [(0, .ref v0), (1, .int v1), (2, .int v2), (3, .int v3)] [] Z I L (jcz Z - jcz Z0) (jsz Z - jsz Z0)) (v0 : Nat) (v1 : Int32) (v2 : Int32) (v3 : Int32) (Z : jZ) (I : jI) (L : jL) (hZ : SH Z) (hx : jext Z0 Z) (hc : jle Z0 Z) (hb : jin B Z) (kv0 : jk Z v0 12) (h : f_X12_findBest_b48 B K14 Q v0 v1 v2 v3 Z I L) : jJ G 5 48 [(0, .ref v0), (1, .int v1), (2, .int v2), (3, .int v3)] [] Z I L (jcz Z - jcz Z0) (jsz Z - jsz Z0) := by
  obtain ⟨x1, ex1⟩ : ∃ y : Int32, y = v3 + 1 := ⟨_, rfl⟩
  have h := h x1 ex1
  refine j_iinc E x1 [(3, .int x1), (0, .ref v0), (1, .int v1), (2, .int v2)] dX12_findBest_48 3 rfl (by rw [ex1]; rfl) (by decide) rfl ?_
  refine j_goto E 14 dX12_findBest_51 (by decide) ?_
  refine j_sub [1, 2, 3, 0] rfl ?_
  exact hK14 v0 v1 v2 x1 Z I L hZ hx hc hb kv0 h
set_option maxRecDepth 100000 in
def f_X12_findBest_L14 (B : Nat × Nat)  (Q : Int32 → jZ → jI → jL → Prop) : Nat → Nat → Int32 → Int32 → Int32 → jZ → jI → jL → Prop
  | 0 => fun _ _ _ _ _ _ _ => False
  | n + 1 => fun v0 v1 v2 v3 Z I L => (((20 : Int32) < v3 → Q v2 Z I L) ∧ (¬ ((20 : Int32) < v3) → (f_X12_paidTo B v0 v1 v3 Z I L (fun r9 Z4 I5 L6 => (((I5 v0 51) < r9 → (∀ I12 : jI, I12 = jpI I5 v0 51 r9 → f_X12_findBest_b48 B (f_X12_findBest_L14 B Q n) Q v0 v1 v3 v3 Z4 I12 L6)) ∧ (¬ ((I5 v0 51) < r9) → f_X12_findBest_b48 B (f_X12_findBest_L14 B Q n) Q v0 v1 v2 v3 Z4 I5 L6))))))
set_option maxHeartbeats 4000000 in
set_option maxRecDepth 100000 in
theorem m_X12_findBest_L14 {G : jG} {Z0 : jZ} {B : Nat × Nat} {Q : Int32 → jZ → jI → jL → Prop} (E : jE G cX12_findBest RX12 w_X12_findBest 5 (some .int) (jrm B 108 2617 Z0) jRF) (EU : jEU G B Z0 (urtI B Z0 Q))  : ∀ (n : Nat) (v0 : Nat) (v1 : Int32) (v2 : Int32) (v3 : Int32) (Z : jZ) (I : jI) (L : jL), SH Z → jext Z0 Z → jle Z0 Z → jin B Z → jk Z v0 12 → f_X12_findBest_L14 B  Q n v0 v1 v2 v3 Z I L → jJ G 5 14 [(0, .ref v0), (1, .int v1), (2, .int v2), (3, .int v3)] [] Z I L (jcz Z - jcz Z0) (jsz Z - jsz Z0) := by
  intro n
  induction n with
  | zero => intro v0 v1 v2 v3 Z I L _ _ _ _ _ h; exact h.elim
  | succ n ih =>
    intro v0 v1 v2 v3 Z I L hZ hx hc hb kv0 h
    have h : (((20 : Int32) < v3 → Q v2 Z I L) ∧ (¬ ((20 : Int32) < v3) → (f_X12_paidTo B v0 v1 v3 Z I L (fun r9 Z4 I5 L6 => (((I5 v0 51) < r9 → (∀ I12 : jI, I12 = jpI I5 v0 51 r9 → f_X12_findBest_b48 B (f_X12_findBest_L14 B Q n) Q v0 v1 v3 v3 Z4 I12 L6)) ∧ (¬ ((I5 v0 51) < r9) → f_X12_findBest_b48 B (f_X12_findBest_L14 B Q n) Q v0 v1 v2 v3 Z4 I5 L6)))))) := h
    obtain ⟨K14, eK14⟩ : ∃ K : Nat → Int32 → Int32 → Int32 → jZ → jI → jL → Prop, K = f_X12_findBest_L14 B  Q n := ⟨_, rfl⟩
    have hK14 := ih
    clear eK14 K14
    generalize f_X12_findBest_L14 B  Q n = K14 at hK14 h
    refine j_iload_n E dX12_findBest_14 3 rfl ?_
    refine j_bipush E (v := 20) dX12_findBest_15 (by decide) ?_
    refine j_icmp_gt E 54 dX12_findBest_17 (by decide) (fun c2 => ?_) (fun c2 => ?_)
    · have h := h.1 c2
      refine j_iload_n E dX12_findBest_54 2 rfl ?_
      exact ju_ireturn E EU hc hb ⟨hx, hZ, hb, _, rfl, h⟩ dX12_findBest_55
    · have h := h.2 c2
      refine j_aload_n E dX12_findBest_20 0 rfl ?_
      refine j_iload_n E dX12_findBest_21 1 rfl ?_
      refine j_iload_n E dX12_findBest_22 3 rfl ?_
      refine ju_callV E [.int v1, .int v3] [] (c_X12_paidTo (gL G) (gD G) (gY G) B v0 v1 v3 Z I L _ hZ hb kv0 h) (gwV W_901 W_902 W_903 W_695 W_900) rfl ⟨rfl, fy_X12_paidTo⟩ ⟨Nat.le_of_ble_eq_true rfl, Nat.le_of_ble_eq_true rfl⟩ (c := 12) rfl (by decide) kv0 rfl rfl (Nat.le_of_ble_eq_true rfl) (ju_f hc hb) dX12_findBest_23 (fun v3 Z4 I5 L6 q7 j8 => ?_)
      refine ju_next hc j8 ?_
      have hc := jle_trans hc j8
      obtain ⟨yZ4, hZ4, hbZ4, r9, rfl, h⟩ := q7
      have hZ := hZ4
      have hx : jext Z0 Z4 := jext_trans hx yZ4
      have hb := hbZ4
      have k10 := (yZ4 _ _ kv0).1
      show jJ G 5 26 [(0, .ref v0), (1, .int v1), (2, .int v2), (3, .int v3)] [.int r9] Z4 I5 L6 (jcz Z4 - jcz Z0) (jsz Z4 - jsz Z0)
      refine j_istore E 4 [(4, .int r9), (0, .ref v0), (1, .int v1), (2, .int v2), (3, .int v3)] dX12_findBest_26 (by decide) rfl ?_
      refine j_iload E dX12_findBest_28 0 rfl ?_
      refine j_aload_n E dX12_findBest_30 1 rfl ?_
      refine j_geti E 12 51 rfl rfl (by decide) (by decide) (iw iT_12) rfl rfl (tw W_904) k10 dX12_findBest_31 ?_
      refine j_icmp_gt E 40 dX12_findBest_34 (by decide) (fun c11 => ?_) (fun c11 => ?_)
      · have h := h.1 c11
        refine j_iload_n E dX12_findBest_40 4 rfl ?_
        refine j_istore_n E 2 [(2, .int v3), (4, .int r9), (0, .ref v0), (1, .int v1), (3, .int v3)] dX12_findBest_41 rfl (by decide) rfl ?_
        refine j_aload_n E dX12_findBest_42 2 rfl ?_
        refine j_iload E dX12_findBest_43 1 rfl ?_
        refine j_puti E 12 51 rfl rfl (by decide) (by decide) (iw iT_12) tyX12_ok nmX12 rfl rfl (tw W_904) rfl rfl rfl k10 dX12_findBest_45 ?_
        refine j_nmI (fun I12 eI12 => ?_)
        have h := h I12 eI12
        refine j_sub [2, 3, 0, 4] rfl ?_
        exact m_X12_findBest_b48 E EU K14 hK14 v0 v1 v3 v3 Z4 I12 L6 hZ hx hc hb k10 h
      · have h := h.2 c11
        refine j_goto E 48 dX12_findBest_37 (by decide) ?_
        refine j_sub [1, 2, 3, 4] rfl ?_
        exact m_X12_findBest_b48 E EU K14 hK14 v0 v1 v2 v3 Z4 I5 L6 hZ hx hc hb k10 h
set_option maxRecDepth 100000 in
def f_X12_findBest (B : Nat × Nat) (v0 : Nat) (v1 : Int32) (Z : jZ) (I : jI) (L : jL) (Q : Int32 → jZ → jI → jL → Prop) : Prop := (f_X12_paidTo B v0 v1 (0 : Int32) Z I L (fun r19 Z14 I15 L16 => (∀ I21 : jI, I21 = jpI I15 v0 51 r19 → (∃ m14 : Nat, f_X12_findBest_L14 B  Q m14 v0 v1 (0 : Int32) (1 : Int32) Z14 I21 L16))))
set_option maxHeartbeats 4000000 in
set_option maxRecDepth 100000 in
theorem c_X12_findBest (l : Launch) (D : va_G) (cy : jC) (B : Nat × Nat) (v0 : Nat) (v1 : Int32) (Z : jZ) (I : jI) (L : jL) (Q : Int32 → jZ → jI → jL → Prop) (hZ : SH Z) (hb : jin B Z) (kv0 : jk Z v0 12) (h : f_X12_findBest B v0 v1 Z I L Q) : jCtU l yX12_findBest w_X12_findBest B 108 2617 D cy [.ref v0, .int v1] Z I L (urtI B Z Q) := by
  refine jCtU_of (cc := cX12_findBest) (maxL := 5) (ret := (some .int)) (by decide +kernel) rfl (Nat.le_of_ble_eq_true rfl) ?_
  intro G eD eY eL E EU
  subst eD; subst eY; subst eL
  have E : jE G cX12_findBest RX12 w_X12_findBest 5 (some .int) (jrm B 108 2617 Z) jRF := E
  have hx : jext Z Z := jext_rfl
  have hc : jle Z Z := jle_rfl
  show jJ G 5 0 [(0, .ref v0), (1, .int v1)] [] Z I L (jcz Z - jcz Z) (jsz Z - jsz Z)
  refine j_iconst E (v := 0) dX12_findBest_0 (by decide) ?_
  refine j_istore_n E 2 [(2, .int (0 : Int32)), (0, .ref v0), (1, .int v1)] dX12_findBest_1 rfl (by decide) rfl ?_
  refine j_aload_n E dX12_findBest_2 1 rfl ?_
  refine j_aload_n E dX12_findBest_3 1 rfl ?_
  refine j_iload_n E dX12_findBest_4 2 rfl ?_
  refine j_iconst E (v := 0) dX12_findBest_5 (by decide) ?_
  refine ju_callV E [.int v1, .int (0 : Int32)] [.ref v0] (c_X12_paidTo (gL G) (gD G) (gY G) B v0 v1 (0 : Int32) Z I L _ hZ hb kv0 h) (gwV W_901 W_902 W_903 W_695 W_900) rfl ⟨rfl, fy_X12_paidTo⟩ ⟨Nat.le_of_ble_eq_true rfl, Nat.le_of_ble_eq_true rfl⟩ (c := 12) rfl (by decide) kv0 rfl rfl (Nat.le_of_ble_eq_true rfl) (ju_f hc hb) dX12_findBest_6 (fun v13 Z14 I15 L16 q17 j18 => ?_)
  refine ju_next hc j18 ?_
  have hc := jle_trans hc j18
  obtain ⟨yZ14, hZ14, hbZ14, r19, rfl, h⟩ := q17
  have hZ := hZ14
  have hx : jext Z Z14 := jext_trans hx yZ14
  have hb := hbZ14
  have k20 := (yZ14 _ _ kv0).1
  show jJ G 5 9 [(2, .int (0 : Int32)), (0, .ref v0), (1, .int v1)] [.int r19, .ref v0] Z14 I15 L16 (jcz Z14 - jcz Z) (jsz Z14 - jsz Z)
  refine j_puti E 12 51 rfl rfl (by decide) (by decide) (iw iT_12) tyX12_ok nmX12 rfl rfl (tw W_904) rfl rfl rfl k20 dX12_findBest_9 ?_
  refine j_nmI (fun I21 eI21 => ?_)
  have h := h I21 eI21
  refine j_iconst E (v := 1) dX12_findBest_12 (by decide) ?_
  refine j_istore_n E 3 [(3, .int (1 : Int32)), (2, .int (0 : Int32)), (0, .ref v0), (1, .int v1)] dX12_findBest_13 rfl (by decide) rfl ?_
  obtain ⟨n22, h⟩ := h
  refine j_sub [2, 3, 1, 0] rfl ?_
  exact m_X12_findBest_L14 E EU  n22 v0 v1 (0 : Int32) (1 : Int32) Z14 I21 L16 hZ hx hc hb k20 h
set_option maxRecDepth 100000 in
def f_X12_best (B : Nat × Nat) (v0 : Nat) (v1 : Int32) (Z : jZ) (I : jI) (L : jL) (Q : Int32 → jZ → jI → jL → Prop) : Prop := (∀ I1 : jI, I1 = jpI I v0 22 (0 : Int32) → (f_X12_isStep v0 v1 Z I1 L (fun r8 I4 L5 => ((¬ r8 = 0 → (f_X12_findBest B v0 v1 Z I4 L5 (fun r16 Z11 I12 L13 => (∀ I18 : jI, I18 = jpI I12 v0 21 (0 : Int32) → (f_X12_tell v0 ((I18 v0 51).toInt64) Z11 I18 L13 (fun I21 L22 => Q r16 Z11 I21 L22)))))) ∧ (r8 = 0 → Q (-1 : Int32) Z I4 L5)))))
set_option maxHeartbeats 4000000 in
set_option maxRecDepth 100000 in
theorem c_X12_best (l : Launch) (D : va_G) (cy : jC) (B : Nat × Nat) (v0 : Nat) (v1 : Int32) (Z : jZ) (I : jI) (L : jL) (Q : Int32 → jZ → jI → jL → Prop) (hZ : SH Z) (hb : jin B Z) (kv0 : jk Z v0 12) (h : f_X12_best B v0 v1 Z I L Q) : jCtU l yX12_best w_X12_best B 109 2641 D cy [.ref v0, .int v1] Z I L (urtI B Z Q) := by
  refine jCtU_of (cc := cX12_best) (maxL := 3) (ret := (some .int)) (by decide +kernel) rfl (Nat.le_of_ble_eq_true rfl) ?_
  intro G eD eY eL E EU
  subst eD; subst eY; subst eL
  have E : jE G cX12_best RX12 w_X12_best 3 (some .int) (jrm B 109 2641 Z) jRF := E
  have hx : jext Z Z := jext_rfl
  have hc : jle Z Z := jle_rfl
  show jJ G 3 0 [(0, .ref v0), (1, .int v1)] [] Z I L (jcz Z - jcz Z) (jsz Z - jsz Z)
  refine j_aload_n E dX12_best_0 0 rfl ?_
  refine j_iconst E (v := 0) dX12_best_1 (by decide) ?_
  refine j_puti E 12 22 rfl rfl (by decide) (by decide) (iw iT_12) tyX12_ok nmX12 rfl rfl (tw W_690) rfl rfl rfl kv0 dX12_best_2 ?_
  refine j_nmI (fun I1 eI1 => ?_)
  have h := h I1 eI1
  refine j_aload_n E dX12_best_5 0 rfl ?_
  refine j_iload_n E dX12_best_6 1 rfl ?_
  refine j_callV E [.int v1] [] (c_X12_isStep (gL G) (gD G) (gY G) v0 v1 Z I1 L _ hZ kv0 h) (gwV W_790 W_791 W_792 W_695 W_789) rfl ⟨rfl, fy_X12_isStep⟩ ⟨Nat.le_of_ble_eq_true rfl, Nat.le_of_ble_eq_true rfl⟩ (c := 12) rfl (by decide) kv0 rfl rfl (Nat.le_of_ble_eq_true rfl) (ju_kn hb) dX12_best_7 (fun v2 Z3 I4 L5 q6 => ?_)
  obtain ⟨rfl, r8, rfl, zr8, h⟩ := q6
  show jJ G 3 10 [(0, .ref v0), (1, .int v1)] [.int r8] Z I4 L5 (jcz Z - jcz Z) (jsz Z - jsz Z)
  refine j_if_ne E 15 dX12_best_10 (by decide) (fun c9 => ?_) (fun c9 => ?_)
  · have h := h.1 c9
    refine j_aload_n E dX12_best_15 0 rfl ?_
    refine j_iload_n E dX12_best_16 1 rfl ?_
    refine ju_callV E [.int v1] [] (c_X12_findBest (gL G) (gD G) (gY G) B v0 v1 Z I4 L5 _ hZ hb kv0 h) (gwV W_906 W_907 W_908 W_695 W_905) rfl ⟨rfl, fy_X12_findBest⟩ ⟨Nat.le_of_ble_eq_true rfl, Nat.le_of_ble_eq_true rfl⟩ (c := 12) rfl (by decide) kv0 rfl rfl (Nat.le_of_ble_eq_true rfl) (ju_f hc hb) dX12_best_17 (fun v10 Z11 I12 L13 q14 j15 => ?_)
    refine ju_next hc j15 ?_
    have hc := jle_trans hc j15
    obtain ⟨yZ11, hZ11, hbZ11, r16, rfl, h⟩ := q14
    have hZ := hZ11
    have hx : jext Z Z11 := jext_trans hx yZ11
    have hb := hbZ11
    have k17 := (yZ11 _ _ kv0).1
    show jJ G 3 20 [(0, .ref v0), (1, .int v1)] [.int r16] Z11 I12 L13 (jcz Z11 - jcz Z) (jsz Z11 - jsz Z)
    refine j_istore_n E 2 [(2, .int r16), (0, .ref v0), (1, .int v1)] dX12_best_20 rfl (by decide) rfl ?_
    refine j_aload_n E dX12_best_21 1 rfl ?_
    refine j_iconst E (v := 0) dX12_best_22 (by decide) ?_
    refine j_puti E 12 21 rfl rfl (by decide) (by decide) (iw iT_12) tyX12_ok nmX12 rfl rfl (tw W_692) rfl rfl rfl k17 dX12_best_23 ?_
    refine j_nmI (fun I18 eI18 => ?_)
    have h := h I18 eI18
    refine j_aload_n E dX12_best_26 1 rfl ?_
    refine j_aload_n E dX12_best_27 1 rfl ?_
    refine j_geti E 12 51 rfl rfl (by decide) (by decide) (iw iT_12) rfl rfl (tw W_904) k17 dX12_best_28 ?_
    refine j_i2l E dX12_best_31 ?_
    refine j_callV E [.long ((I18 v0 51).toInt64)] [] (c_X12_tell (gL G) (gD G) (gY G) v0 ((I18 v0 51).toInt64) Z11 I18 L13 _ hZ k17 h) (gwV W_820 W_821 W_822 W_695 W_819) rfl ⟨rfl, fy_X12_tell⟩ ⟨Nat.le_of_ble_eq_true rfl, Nat.le_of_ble_eq_true rfl⟩ (c := 12) rfl (by decide) k17 rfl rfl (Nat.le_of_ble_eq_true rfl) (ju_kn hb) dX12_best_32 (fun v19 Z20 I21 L22 q23 => ?_)
    obtain ⟨rfl, rfl, h⟩ := q23
    show jJ G 3 35 [(2, .int r16), (0, .ref v0), (1, .int v1)] [] Z11 I21 L22 (jcz Z11 - jcz Z) (jsz Z11 - jsz Z)
    refine j_iload_n E dX12_best_35 0 rfl ?_
    exact ju_ireturn E EU hc hb ⟨hx, hZ, hb, _, rfl, h⟩ dX12_best_36
  · have h := h.2 c9
    refine j_iconst E (v := -1) dX12_best_13 (by decide) ?_
    exact ju_ireturn E EU hc hb ⟨hx, hZ, hb, _, rfl, h⟩ dX12_best_14
set_option maxRecDepth 100000 in
def f_X12_market_b172 (B : Nat × Nat)  (Q : Int32 → jZ → jI → jL → Prop) (v0 : Nat) (v2 : Int32) (v4 : Int32) (s0 : Nat) (s1 : Int64) (Z : jZ) (I : jI) (L : jL) : Prop := (f_X12_tell s0 s1 Z I L (fun I3 L4 => (f_X12_tell v0 (v4.toInt64) Z I3 L4 (fun I9 L10 => Q v2 Z I9 L10))))
set_option maxHeartbeats 4000000 in
set_option maxRecDepth 100000 in
theorem m_X12_market_b172 {G : jG} {B : Nat × Nat} {Z0 : jZ} {Q : Int32 → jZ → jI → jL → Prop} (E : jE G cX12_market RX12 w_X12_market 8 (some .int) (jrm B 109 2641 Z0) jRF) (EU : jEU G B Z0 (urtI B Z0 Q))  (v0 : Nat) (v2 : Int32) (v4 : Int32) (s0 : Nat) (s1 : Int64) (Z : jZ) (I : jI) (L : jL) (hZ : SH Z) (hx : jext Z0 Z) (hc : jle Z0 Z) (hb : jin B Z) (kv0 : jk Z v0 12) (ks0 : jk Z s0 12) (h : f_X12_market_b172 B  Q v0 v2 v4 s0 s1 Z I L) : jJ G 8 172 [(0, .ref v0), (2, .int v2), (4, .int v4)] [.long s1, .ref s0] Z I L (jcz Z - jcz Z0) (jsz Z - jsz Z0) := by
  refine j_callV E [.long s1] [] (c_X12_tell (gL G) (gD G) (gY G) s0 s1 Z I L _ hZ ks0 h) (gwV W_820 W_821 W_822 W_695 W_819) rfl ⟨rfl, fy_X12_tell⟩ ⟨Nat.le_of_ble_eq_true rfl, Nat.le_of_ble_eq_true rfl⟩ (c := 12) rfl (by decide) ks0 rfl rfl (Nat.le_of_ble_eq_true rfl) (ju_kn hb) dX12_market_172 (fun v1 Z2 I3 L4 q5 => ?_)
  obtain ⟨rfl, rfl, h⟩ := q5
  show jJ G 8 175 [(0, .ref v0), (2, .int v2), (4, .int v4)] [] Z I3 L4 (jcz Z - jcz Z0) (jsz Z - jsz Z0)
  refine j_aload_n E dX12_market_175 0 rfl ?_
  refine j_iload E dX12_market_176 2 rfl ?_
  refine j_i2l E dX12_market_178 ?_
  refine j_callV E [.long (v4.toInt64)] [] (c_X12_tell (gL G) (gD G) (gY G) v0 (v4.toInt64) Z I3 L4 _ hZ kv0 h) (gwV W_820 W_821 W_822 W_695 W_819) rfl ⟨rfl, fy_X12_tell⟩ ⟨Nat.le_of_ble_eq_true rfl, Nat.le_of_ble_eq_true rfl⟩ (c := 12) rfl (by decide) kv0 rfl rfl (Nat.le_of_ble_eq_true rfl) (ju_kn hb) dX12_market_179 (fun v7 Z8 I9 L10 q11 => ?_)
  obtain ⟨rfl, rfl, h⟩ := q11
  show jJ G 8 182 [(0, .ref v0), (2, .int v2), (4, .int v4)] [] Z I9 L10 (jcz Z - jcz Z0) (jsz Z - jsz Z0)
  refine j_iload_n E dX12_market_182 1 rfl ?_
  exact ju_ireturn E EU hc hb ⟨hx, hZ, hb, _, rfl, h⟩ dX12_market_183
set_option maxRecDepth 100000 in
def f_X12_market_L130 (B : Nat × Nat)  (Q : Int32 → jZ → jI → jL → Prop) : Nat → Nat → Int32 → Int32 → Int32 → Int32 → jZ → jI → jL → Prop
  | 0 => fun _ _ _ _ _ _ _ _ => False
  | n + 1 => fun v0 v2 v3 v4 v5 Z I L => (((I v0 0) ≤ v5 → (∀ I14 : jI, I14 = jpI I v0 21 (0 : Int32) → ((v3 = 0 → f_X12_market_b172 B  Q v0 v2 v4 v0 (0 : Int64) Z I14 L) ∧ (¬ (v3 = 0) → f_X12_market_b172 B  Q v0 v2 v4 v0 (1 : Int64) Z I14 L)))) ∧ (¬ ((I v0 0) ≤ v5) → (∀ b16 : Nat, jr Z v0 3 = some b16 → (vp_in v5 24 ∧ (∀ x18 : Int32, x18 = (v4 + (I b16 v5.toNatClampNeg)) → (∀ x19 : Int32, x19 = v5 + 1 → (f_X12_market_L130 B Q n) v0 v2 v3 x18 x19 Z I L))))))
set_option maxHeartbeats 4000000 in
set_option maxRecDepth 100000 in
theorem m_X12_market_L130 {G : jG} {Z0 : jZ} {B : Nat × Nat} {Q : Int32 → jZ → jI → jL → Prop} (E : jE G cX12_market RX12 w_X12_market 8 (some .int) (jrm B 109 2641 Z0) jRF) (EU : jEU G B Z0 (urtI B Z0 Q))  : ∀ (n : Nat) (v0 : Nat) (v2 : Int32) (v3 : Int32) (v4 : Int32) (v5 : Int32) (Z : jZ) (I : jI) (L : jL), SH Z → jext Z0 Z → jle Z0 Z → jin B Z → jk Z v0 12 → f_X12_market_L130 B  Q n v0 v2 v3 v4 v5 Z I L → jJ G 8 130 [(0, .ref v0), (2, .int v2), (3, .int v3), (4, .int v4), (5, .int v5)] [] Z I L (jcz Z - jcz Z0) (jsz Z - jsz Z0) := by
  intro n
  induction n with
  | zero => intro v0 v2 v3 v4 v5 Z I L _ _ _ _ _ h; exact h.elim
  | succ n ih =>
    intro v0 v2 v3 v4 v5 Z I L hZ hx hc hb kv0 h
    have h : (((I v0 0) ≤ v5 → (∀ I14 : jI, I14 = jpI I v0 21 (0 : Int32) → ((v3 = 0 → f_X12_market_b172 B  Q v0 v2 v4 v0 (0 : Int64) Z I14 L) ∧ (¬ (v3 = 0) → f_X12_market_b172 B  Q v0 v2 v4 v0 (1 : Int64) Z I14 L)))) ∧ (¬ ((I v0 0) ≤ v5) → (∀ b16 : Nat, jr Z v0 3 = some b16 → (vp_in v5 24 ∧ (∀ x18 : Int32, x18 = (v4 + (I b16 v5.toNatClampNeg)) → (∀ x19 : Int32, x19 = v5 + 1 → (f_X12_market_L130 B Q n) v0 v2 v3 x18 x19 Z I L)))))) := h
    obtain ⟨K130, eK130⟩ : ∃ K : Nat → Int32 → Int32 → Int32 → Int32 → jZ → jI → jL → Prop, K = f_X12_market_L130 B  Q n := ⟨_, rfl⟩
    have hK130 := ih
    clear eK130 K130
    generalize f_X12_market_L130 B  Q n = K130 at hK130 h
    refine j_iload E dX12_market_130 4 rfl ?_
    refine j_aload_n E dX12_market_132 0 rfl ?_
    refine j_geti E 12 0 rfl rfl (by decide) (by decide) (iw iT_12) rfl rfl (tw W_693) kv0 dX12_market_133 ?_
    refine j_icmp_ge E 157 dX12_market_136 (by decide) (fun c13 => ?_) (fun c13 => ?_)
    · have h := h.1 c13
      refine j_aload_n E dX12_market_157 0 rfl ?_
      refine j_iconst E (v := 0) dX12_market_158 (by decide) ?_
      refine j_puti E 12 21 rfl rfl (by decide) (by decide) (iw iT_12) tyX12_ok nmX12 rfl rfl (tw W_692) rfl rfl rfl kv0 dX12_market_159 ?_
      refine j_nmI (fun I14 eI14 => ?_)
      have h := h I14 eI14
      refine j_aload_n E dX12_market_162 0 rfl ?_
      refine j_iload_n E dX12_market_163 2 rfl ?_
      refine j_if_eq E 171 dX12_market_164 (by decide) (fun c15 => ?_) (fun c15 => ?_)
      · have h := h.1 c15
        refine j_lconst E (v := 0) dX12_market_171 (by decide) ?_
        refine j_sub [0, 1, 3] rfl ?_
        exact m_X12_market_b172 E EU  v0 v2 v4 v0 (0 : Int64) Z I14 L hZ hx hc hb kv0 kv0 h
      · have h := h.2 c15
        refine j_lconst E (v := 1) dX12_market_167 (by decide) ?_
        refine j_goto E 172 dX12_market_168 (by decide) ?_
        refine j_sub [0, 1, 3] rfl ?_
        exact m_X12_market_b172 E EU  v0 v2 v4 v0 (1 : Int64) Z I14 L hZ hx hc hb kv0 kv0 h
    · have h := h.2 c13
      refine j_iload E dX12_market_139 3 rfl ?_
      refine j_aload_n E dX12_market_141 0 rfl ?_
      obtain ⟨b16, eb16, kb16, lb16⟩ := sh_f hZ kv0 (j := 3) (k := 14) (m := 24) rfl
      have h := h b16 eb16
      refine j_getr E 12 3 rfl rfl (by decide) (by decide) (iw iT_12) rfl rfl (tw W_743) kv0 eb16 dX12_market_142 ?_
      refine j_iload E dX12_market_145 4 rfl ?_
      obtain ⟨o17, h⟩ := h
      refine j_iald E kb16 (by rw [lb16]; exact o17) dX12_market_147 ?_
      refine j_iadd E dX12_market_148 ?_
      refine j_topi (fun x18 ex18 => ?_)
      have h := h x18 ex18
      refine j_istore E 4 [(4, .int x18), (0, .ref v0), (2, .int v2), (3, .int v3), (5, .int v5)] dX12_market_149 (by decide) rfl ?_
      obtain ⟨x19, ex19⟩ : ∃ y : Int32, y = v5 + 1 := ⟨_, rfl⟩
      have h := h x19 ex19
      refine j_iinc E x19 [(5, .int x19), (4, .int x18), (0, .ref v0), (2, .int v2), (3, .int v3)] dX12_market_151 4 rfl (by rw [ex19]; rfl) (by decide) rfl ?_
      refine j_goto E 130 dX12_market_154 (by decide) ?_
      refine j_sub [2, 3, 4, 1, 0] rfl ?_
      exact hK130 v0 v2 v3 x18 x19 Z I L hZ hx hc hb kv0 h
set_option maxRecDepth 100000 in
def f_X12_market_b124 (B : Nat × Nat)  (Q : Int32 → jZ → jI → jL → Prop) (v0 : Nat) (v2 : Int32) (v3 : Int32) (Z : jZ) (I : jI) (L : jL) : Prop := (∃ m130 : Nat, f_X12_market_L130 B  Q m130 v0 v2 v3 (0 : Int32) (0 : Int32) Z I L)
set_option maxHeartbeats 4000000 in
set_option maxRecDepth 100000 in
theorem m_X12_market_b124 {G : jG} {B : Nat × Nat} {Z0 : jZ} {Q : Int32 → jZ → jI → jL → Prop} (E : jE G cX12_market RX12 w_X12_market 8 (some .int) (jrm B 109 2641 Z0) jRF) (EU : jEU G B Z0 (urtI B Z0 Q))  (v0 : Nat) (v2 : Int32) (v3 : Int32) (Z : jZ) (I : jI) (L : jL) (hZ : SH Z) (hx : jext Z0 Z) (hc : jle Z0 Z) (hb : jin B Z) (kv0 : jk Z v0 12) (h : f_X12_market_b124 B  Q v0 v2 v3 Z I L) : jJ G 8 124 [(0, .ref v0), (2, .int v2), (3, .int v3)] [] Z I L (jcz Z - jcz Z0) (jsz Z - jsz Z0) := by
  refine j_iconst E (v := 0) dX12_market_124 (by decide) ?_
  refine j_istore E 4 [(4, .int (0 : Int32)), (0, .ref v0), (2, .int v2), (3, .int v3)] dX12_market_125 (by decide) rfl ?_
  refine j_iconst E (v := 0) dX12_market_127 (by decide) ?_
  refine j_istore E 5 [(5, .int (0 : Int32)), (4, .int (0 : Int32)), (0, .ref v0), (2, .int v2), (3, .int v3)] dX12_market_128 (by decide) rfl ?_
  obtain ⟨n20, h⟩ := h
  refine j_sub [2, 3, 4, 1, 0] rfl ?_
  exact m_X12_market_L130 E EU  n20 v0 v2 v3 (0 : Int32) (0 : Int32) Z I L hZ hx hc hb kv0 h
set_option maxRecDepth 100000 in
def f_X12_market_b116 (B : Nat × Nat) (K30 : Nat → Int32 → Int32 → Int32 → Int32 → jZ → jI → jL → Prop) (Q : Int32 → jZ → jI → jL → Prop) (v0 : Nat) (v1 : Int32) (v3 : Int32) (v4 : Int32) (s0 : Int32) (s1 : Int32) (Z : jZ) (I : jI) (L : jL) : Prop := (∀ x21 : Int32, x21 = (s0 + s1) → (∀ x22 : Int32, x22 = v4 + 1 → K30 v0 v1 x21 v3 x22 Z I L))
set_option maxHeartbeats 4000000 in
set_option maxRecDepth 100000 in
theorem m_X12_market_b116 {G : jG} {B : Nat × Nat} {Z0 : jZ} {Q : Int32 → jZ → jI → jL → Prop} (E : jE G cX12_market RX12 w_X12_market 8 (some .int) (jrm B 109 2641 Z0) jRF) (EU : jEU G B Z0 (urtI B Z0 Q)) (K30 : Nat → Int32 → Int32 → Int32 → Int32 → jZ → jI → jL → Prop) (hK30 : ∀ (v0 : Nat) (v1 : Int32) (v2 : Int32) (v3 : Int32) (v4 : Int32) (Z : jZ) (I : jI) (L : jL), SH Z → jext Z0 Z → jle Z0 Z → jin B Z → jk Z v0 12 → K30 v0 v1 v2 v3 v4 Z I L → jJ G 8 30 [(0, .ref v0), (1, .int v1), (2, .int v2), (3, .int v3), (4, .int v4)] [] Z I L (jcz Z - jcz Z0) (jsz Z - jsz Z0)) (v0 : Nat) (v1 : Int32) (v3 : Int32) (v4 : Int32) (s0 : Int32) (s1 : Int32) (Z : jZ) (I : jI) (L : jL) (hZ : SH Z) (hx : jext Z0 Z) (hc : jle Z0 Z) (hb : jin B Z) (kv0 : jk Z v0 12) (h : f_X12_market_b116 B K30 Q v0 v1 v3 v4 s0 s1 Z I L) : jJ G 8 116 [(0, .ref v0), (1, .int v1), (3, .int v3), (4, .int v4)] [.int s1, .int s0] Z I L (jcz Z - jcz Z0) (jsz Z - jsz Z0) := by
  refine j_iadd E dX12_market_116 ?_
  refine j_topi (fun x21 ex21 => ?_)
  have h := h x21 ex21
  refine j_istore_n E 2 [(2, .int x21), (0, .ref v0), (1, .int v1), (3, .int v3), (4, .int v4)] dX12_market_117 rfl (by decide) rfl ?_
  obtain ⟨x22, ex22⟩ : ∃ y : Int32, y = v4 + 1 := ⟨_, rfl⟩
  have h := h x22 ex22
  refine j_iinc E x22 [(4, .int x22), (2, .int x21), (0, .ref v0), (1, .int v1), (3, .int v3)] dX12_market_118 4 rfl (by rw [ex22]; rfl) (by decide) rfl ?_
  refine j_goto E 30 dX12_market_121 (by decide) ?_
  refine j_sub [2, 3, 1, 4, 0] rfl ?_
  exact hK30 v0 v1 x21 v3 x22 Z I L hZ hx hc hb kv0 h
set_option maxRecDepth 100000 in
def f_X12_market_b100 (B : Nat × Nat) (K30 : Nat → Int32 → Int32 → Int32 → Int32 → jZ → jI → jL → Prop) (K45 : Nat → Int32 → Int32 → Int32 → Int32 → Int32 → jZ → jI → jL → Prop) (Q : Int32 → jZ → jI → jL → Prop) (v0 : Nat) (v1 : Int32) (v2 : Int32) (v3 : Int32) (v4 : Int32) (v5 : Int32) (Z : jZ) (I : jI) (L : jL) : Prop := (∀ x23 : Int32, x23 = v5 + 1 → K45 v0 v1 v2 v3 v4 x23 Z I L)
set_option maxHeartbeats 4000000 in
set_option maxRecDepth 100000 in
theorem m_X12_market_b100 {G : jG} {B : Nat × Nat} {Z0 : jZ} {Q : Int32 → jZ → jI → jL → Prop} (E : jE G cX12_market RX12 w_X12_market 8 (some .int) (jrm B 109 2641 Z0) jRF) (EU : jEU G B Z0 (urtI B Z0 Q)) (K30 : Nat → Int32 → Int32 → Int32 → Int32 → jZ → jI → jL → Prop) (hK30 : ∀ (v0 : Nat) (v1 : Int32) (v2 : Int32) (v3 : Int32) (v4 : Int32) (Z : jZ) (I : jI) (L : jL), SH Z → jext Z0 Z → jle Z0 Z → jin B Z → jk Z v0 12 → K30 v0 v1 v2 v3 v4 Z I L → jJ G 8 30 [(0, .ref v0), (1, .int v1), (2, .int v2), (3, .int v3), (4, .int v4)] [] Z I L (jcz Z - jcz Z0) (jsz Z - jsz Z0)) (K45 : Nat → Int32 → Int32 → Int32 → Int32 → Int32 → jZ → jI → jL → Prop) (hK45 : ∀ (v0 : Nat) (v1 : Int32) (v2 : Int32) (v3 : Int32) (v4 : Int32) (v5 : Int32) (Z : jZ) (I : jI) (L : jL), SH Z → jext Z0 Z → jle Z0 Z → jin B Z → jk Z v0 12 → K45 v0 v1 v2 v3 v4 v5 Z I L → jJ G 8 45 [(0, .ref v0), (1, .int v1), (2, .int v2), (3, .int v3), (4, .int v4), (5, .int v5)] [] Z I L (jcz Z - jcz Z0) (jsz Z - jsz Z0)) (v0 : Nat) (v1 : Int32) (v2 : Int32) (v3 : Int32) (v4 : Int32) (v5 : Int32) (Z : jZ) (I : jI) (L : jL) (hZ : SH Z) (hx : jext Z0 Z) (hc : jle Z0 Z) (hb : jin B Z) (kv0 : jk Z v0 12) (h : f_X12_market_b100 B K30 K45 Q v0 v1 v2 v3 v4 v5 Z I L) : jJ G 8 100 [(0, .ref v0), (1, .int v1), (2, .int v2), (3, .int v3), (4, .int v4), (5, .int v5)] [] Z I L (jcz Z - jcz Z0) (jsz Z - jsz Z0) := by
  obtain ⟨x23, ex23⟩ : ∃ y : Int32, y = v5 + 1 := ⟨_, rfl⟩
  have h := h x23 ex23
  refine j_iinc E x23 [(5, .int x23), (0, .ref v0), (1, .int v1), (2, .int v2), (3, .int v3), (4, .int v4)] dX12_market_100 5 rfl (by rw [ex23]; rfl) (by decide) rfl ?_
  refine j_goto E 45 dX12_market_103 (by decide) ?_
  refine j_sub [1, 2, 3, 4, 5, 0] rfl ?_
  exact hK45 v0 v1 v2 v3 v4 x23 Z I L hZ hx hc hb kv0 h
set_option maxRecDepth 100000 in
def f_X12_market_L45 (B : Nat × Nat) (K30 : Nat → Int32 → Int32 → Int32 → Int32 → jZ → jI → jL → Prop) (Q : Int32 → jZ → jI → jL → Prop) : Nat → Nat → Int32 → Int32 → Int32 → Int32 → Int32 → jZ → jI → jL → Prop
  | 0 => fun _ _ _ _ _ _ _ _ _ => False
  | n + 1 => fun v0 v1 v2 v3 v4 v5 Z I L => (((I v0 0) ≤ v5 → ((v3 = 0 → f_X12_market_b116 B K30 Q v0 v1 v3 v4 v2 (1 : Int32) Z I L) ∧ (¬ (v3 = 0) → f_X12_market_b116 B K30 Q v0 v1 v3 v4 v2 (0 : Int32) Z I L))) ∧ (¬ ((I v0 0) ≤ v5) → (∀ b26 : Nat, jr Z v0 3 = some b26 → (vp_in v5 24 ∧ (f_X12_paidTo B v0 v5 (I b26 v5.toNatClampNeg) Z I L (fun r34 Z29 I30 L31 => (f_X12_findBest B v0 v5 Z29 I30 L31 (fun r42 Z37 I38 L39 => ((r34 < (I38 v0 51) → (∀ b45 : Nat, jr Z37 v0 3 = some b45 → (vp_in v5 24 ∧ (∀ I47 : jI, I47 = jpI I38 b45 v5.toNatClampNeg r42 → f_X12_market_b100 B K30 (f_X12_market_L45 B K30 Q n) Q v0 v1 v2 (0 : Int32) v4 v5 Z37 I47 L39)))) ∧ (¬ (r34 < (I38 v0 51)) → f_X12_market_b100 B K30 (f_X12_market_L45 B K30 Q n) Q v0 v1 v2 v3 v4 v5 Z37 I38 L39))))))))))
set_option maxHeartbeats 4000000 in
set_option maxRecDepth 100000 in
theorem m_X12_market_L45 {G : jG} {Z0 : jZ} {B : Nat × Nat} {Q : Int32 → jZ → jI → jL → Prop} (E : jE G cX12_market RX12 w_X12_market 8 (some .int) (jrm B 109 2641 Z0) jRF) (EU : jEU G B Z0 (urtI B Z0 Q)) (K30 : Nat → Int32 → Int32 → Int32 → Int32 → jZ → jI → jL → Prop) (hK30 : ∀ (v0 : Nat) (v1 : Int32) (v2 : Int32) (v3 : Int32) (v4 : Int32) (Z : jZ) (I : jI) (L : jL), SH Z → jext Z0 Z → jle Z0 Z → jin B Z → jk Z v0 12 → K30 v0 v1 v2 v3 v4 Z I L → jJ G 8 30 [(0, .ref v0), (1, .int v1), (2, .int v2), (3, .int v3), (4, .int v4)] [] Z I L (jcz Z - jcz Z0) (jsz Z - jsz Z0)) : ∀ (n : Nat) (v0 : Nat) (v1 : Int32) (v2 : Int32) (v3 : Int32) (v4 : Int32) (v5 : Int32) (Z : jZ) (I : jI) (L : jL), SH Z → jext Z0 Z → jle Z0 Z → jin B Z → jk Z v0 12 → f_X12_market_L45 B K30 Q n v0 v1 v2 v3 v4 v5 Z I L → jJ G 8 45 [(0, .ref v0), (1, .int v1), (2, .int v2), (3, .int v3), (4, .int v4), (5, .int v5)] [] Z I L (jcz Z - jcz Z0) (jsz Z - jsz Z0) := by
  intro n
  induction n with
  | zero => intro v0 v1 v2 v3 v4 v5 Z I L _ _ _ _ _ h; exact h.elim
  | succ n ih =>
    intro v0 v1 v2 v3 v4 v5 Z I L hZ hx hc hb kv0 h
    have h : (((I v0 0) ≤ v5 → ((v3 = 0 → f_X12_market_b116 B K30 Q v0 v1 v3 v4 v2 (1 : Int32) Z I L) ∧ (¬ (v3 = 0) → f_X12_market_b116 B K30 Q v0 v1 v3 v4 v2 (0 : Int32) Z I L))) ∧ (¬ ((I v0 0) ≤ v5) → (∀ b26 : Nat, jr Z v0 3 = some b26 → (vp_in v5 24 ∧ (f_X12_paidTo B v0 v5 (I b26 v5.toNatClampNeg) Z I L (fun r34 Z29 I30 L31 => (f_X12_findBest B v0 v5 Z29 I30 L31 (fun r42 Z37 I38 L39 => ((r34 < (I38 v0 51) → (∀ b45 : Nat, jr Z37 v0 3 = some b45 → (vp_in v5 24 ∧ (∀ I47 : jI, I47 = jpI I38 b45 v5.toNatClampNeg r42 → f_X12_market_b100 B K30 (f_X12_market_L45 B K30 Q n) Q v0 v1 v2 (0 : Int32) v4 v5 Z37 I47 L39)))) ∧ (¬ (r34 < (I38 v0 51)) → f_X12_market_b100 B K30 (f_X12_market_L45 B K30 Q n) Q v0 v1 v2 v3 v4 v5 Z37 I38 L39)))))))))) := h
    obtain ⟨K45, eK45⟩ : ∃ K : Nat → Int32 → Int32 → Int32 → Int32 → Int32 → jZ → jI → jL → Prop, K = f_X12_market_L45 B K30 Q n := ⟨_, rfl⟩
    have hK45 := ih
    clear eK45 K45
    generalize f_X12_market_L45 B K30 Q n = K45 at hK45 h
    refine j_iload E dX12_market_45 5 rfl ?_
    refine j_aload_n E dX12_market_47 0 rfl ?_
    refine j_geti E 12 0 rfl rfl (by decide) (by decide) (iw iT_12) rfl rfl (tw W_693) kv0 dX12_market_48 ?_
    refine j_icmp_ge E 106 dX12_market_51 (by decide) (fun c24 => ?_) (fun c24 => ?_)
    · have h := h.1 c24
      refine j_iload_n E dX12_market_106 2 rfl ?_
      refine j_iload_n E dX12_market_107 3 rfl ?_
      refine j_if_eq E 115 dX12_market_108 (by decide) (fun c25 => ?_) (fun c25 => ?_)
      · have h := h.1 c25
        refine j_iconst E (v := 1) dX12_market_115 (by decide) ?_
        refine j_sub [0, 1, 3, 4] rfl ?_
        exact m_X12_market_b116 E EU K30 hK30 v0 v1 v3 v4 v2 (1 : Int32) Z I L hZ hx hc hb kv0 h
      · have h := h.2 c25
        refine j_iconst E (v := 0) dX12_market_111 (by decide) ?_
        refine j_goto E 116 dX12_market_112 (by decide) ?_
        refine j_sub [0, 1, 3, 4] rfl ?_
        exact m_X12_market_b116 E EU K30 hK30 v0 v1 v3 v4 v2 (0 : Int32) Z I L hZ hx hc hb kv0 h
    · have h := h.2 c24
      refine j_aload_n E dX12_market_54 0 rfl ?_
      refine j_iload E dX12_market_55 5 rfl ?_
      refine j_aload_n E dX12_market_57 0 rfl ?_
      obtain ⟨b26, eb26, kb26, lb26⟩ := sh_f hZ kv0 (j := 3) (k := 14) (m := 24) rfl
      have h := h b26 eb26
      refine j_getr E 12 3 rfl rfl (by decide) (by decide) (iw iT_12) rfl rfl (tw W_743) kv0 eb26 dX12_market_58 ?_
      refine j_iload E dX12_market_61 5 rfl ?_
      obtain ⟨o27, h⟩ := h
      refine j_iald E kb26 (by rw [lb26]; exact o27) dX12_market_63 ?_
      refine ju_callV E [.int v5, .int (I b26 v5.toNatClampNeg)] [] (c_X12_paidTo (gL G) (gD G) (gY G) B v0 v5 (I b26 v5.toNatClampNeg) Z I L _ hZ hb kv0 h) (gwV W_901 W_902 W_903 W_695 W_900) rfl ⟨rfl, fy_X12_paidTo⟩ ⟨Nat.le_of_ble_eq_true rfl, Nat.le_of_ble_eq_true rfl⟩ (c := 12) rfl (by decide) kv0 rfl rfl (Nat.le_of_ble_eq_true rfl) (ju_f hc hb) dX12_market_64 (fun v28 Z29 I30 L31 q32 j33 => ?_)
      refine ju_next hc j33 ?_
      have hc := jle_trans hc j33
      obtain ⟨yZ29, hZ29, hbZ29, r34, rfl, h⟩ := q32
      have hZ := hZ29
      have hx : jext Z0 Z29 := jext_trans hx yZ29
      have hb := hbZ29
      have k35 := (yZ29 _ _ kv0).1
      show jJ G 8 67 [(0, .ref v0), (1, .int v1), (2, .int v2), (3, .int v3), (4, .int v4), (5, .int v5)] [.int r34] Z29 I30 L31 (jcz Z29 - jcz Z0) (jsz Z29 - jsz Z0)
      refine j_istore E 6 [(6, .int r34), (0, .ref v0), (1, .int v1), (2, .int v2), (3, .int v3), (4, .int v4), (5, .int v5)] dX12_market_67 (by decide) rfl ?_
      refine j_aload_n E dX12_market_69 1 rfl ?_
      refine j_iload E dX12_market_70 6 rfl ?_
      refine ju_callV E [.int v5] [] (c_X12_findBest (gL G) (gD G) (gY G) B v0 v5 Z29 I30 L31 _ hZ hb k35 h) (gwV W_906 W_907 W_908 W_695 W_905) rfl ⟨rfl, fy_X12_findBest⟩ ⟨Nat.le_of_ble_eq_true rfl, Nat.le_of_ble_eq_true rfl⟩ (c := 12) rfl (by decide) k35 rfl rfl (Nat.le_of_ble_eq_true rfl) (ju_f hc hb) dX12_market_72 (fun v36 Z37 I38 L39 q40 j41 => ?_)
      refine ju_next hc j41 ?_
      have hc := jle_trans hc j41
      obtain ⟨yZ37, hZ37, hbZ37, r42, rfl, h⟩ := q40
      have hZ := hZ37
      have hx : jext Z0 Z37 := jext_trans hx yZ37
      have hb := hbZ37
      have k43 := (yZ37 _ _ k35).1
      show jJ G 8 75 [(6, .int r34), (0, .ref v0), (1, .int v1), (2, .int v2), (3, .int v3), (4, .int v4), (5, .int v5)] [.int r42] Z37 I38 L39 (jcz Z37 - jcz Z0) (jsz Z37 - jsz Z0)
      refine j_istore E 7 [(7, .int r42), (6, .int r34), (0, .ref v0), (1, .int v1), (2, .int v2), (3, .int v3), (4, .int v4), (5, .int v5)] dX12_market_75 (by decide) rfl ?_
      refine j_aload_n E dX12_market_77 2 rfl ?_
      refine j_geti E 12 51 rfl rfl (by decide) (by decide) (iw iT_12) rfl rfl (tw W_904) k43 dX12_market_78 ?_
      refine j_iload E dX12_market_81 1 rfl ?_
      refine j_icmp_gt E 89 dX12_market_83 (by decide) (fun c44 => ?_) (fun c44 => ?_)
      · have h := h.1 c44
        refine j_aload_n E dX12_market_89 2 rfl ?_
        obtain ⟨b45, eb45, kb45, lb45⟩ := sh_f hZ k43 (j := 3) (k := 14) (m := 24) rfl
        have h := h b45 eb45
        refine j_getr E 12 3 rfl rfl (by decide) (by decide) (iw iT_12) rfl rfl (tw W_743) k43 eb45 dX12_market_90 ?_
        refine j_iload E dX12_market_93 7 rfl ?_
        refine j_iload E dX12_market_95 0 rfl ?_
        obtain ⟨o46, h⟩ := h
        refine j_iast E kb45 (by rw [lb45]; exact o46) dX12_market_97 ?_
        refine j_nmI (fun I47 eI47 => ?_)
        have h := h I47 eI47
        refine j_iconst E (v := 0) dX12_market_98 (by decide) ?_
        refine j_istore_n E 3 [(3, .int (0 : Int32)), (7, .int r42), (6, .int r34), (0, .ref v0), (1, .int v1), (2, .int v2), (4, .int v4), (5, .int v5)] dX12_market_99 rfl (by decide) rfl ?_
        refine j_sub [3, 4, 5, 0, 6, 7] rfl ?_
        exact m_X12_market_b100 E EU K30 hK30 K45 hK45 v0 v1 v2 (0 : Int32) v4 v5 Z37 I47 L39 hZ hx hc hb k43 h
      · have h := h.2 c44
        refine j_goto E 100 dX12_market_86 (by decide) ?_
        refine j_sub [2, 3, 4, 5, 6, 7] rfl ?_
        exact m_X12_market_b100 E EU K30 hK30 K45 hK45 v0 v1 v2 v3 v4 v5 Z37 I38 L39 hZ hx hc hb k43 h
set_option maxRecDepth 100000 in
def f_X12_market_L30 (B : Nat × Nat)  (Q : Int32 → jZ → jI → jL → Prop) : Nat → Nat → Int32 → Int32 → Int32 → Int32 → jZ → jI → jL → Prop
  | 0 => fun _ _ _ _ _ _ _ _ => False
  | n + 1 => fun v0 v1 v2 v3 v4 Z I L => ((v1 ≤ v4 → f_X12_market_b124 B  Q v0 v2 v3 Z I L) ∧ (¬ (v1 ≤ v4) → ((¬ v3 = 0 → f_X12_market_b124 B  Q v0 v2 v3 Z I L) ∧ (v3 = 0 → (∃ m45 : Nat, f_X12_market_L45 B (f_X12_market_L30 B Q n) Q m45 v0 v1 v2 (1 : Int32) v4 (0 : Int32) Z I L)))))
set_option maxHeartbeats 4000000 in
set_option maxRecDepth 100000 in
theorem m_X12_market_L30 {G : jG} {Z0 : jZ} {B : Nat × Nat} {Q : Int32 → jZ → jI → jL → Prop} (E : jE G cX12_market RX12 w_X12_market 8 (some .int) (jrm B 109 2641 Z0) jRF) (EU : jEU G B Z0 (urtI B Z0 Q))  : ∀ (n : Nat) (v0 : Nat) (v1 : Int32) (v2 : Int32) (v3 : Int32) (v4 : Int32) (Z : jZ) (I : jI) (L : jL), SH Z → jext Z0 Z → jle Z0 Z → jin B Z → jk Z v0 12 → f_X12_market_L30 B  Q n v0 v1 v2 v3 v4 Z I L → jJ G 8 30 [(0, .ref v0), (1, .int v1), (2, .int v2), (3, .int v3), (4, .int v4)] [] Z I L (jcz Z - jcz Z0) (jsz Z - jsz Z0) := by
  intro n
  induction n with
  | zero => intro v0 v1 v2 v3 v4 Z I L _ _ _ _ _ h; exact h.elim
  | succ n ih =>
    intro v0 v1 v2 v3 v4 Z I L hZ hx hc hb kv0 h
    have h : ((v1 ≤ v4 → f_X12_market_b124 B  Q v0 v2 v3 Z I L) ∧ (¬ (v1 ≤ v4) → ((¬ v3 = 0 → f_X12_market_b124 B  Q v0 v2 v3 Z I L) ∧ (v3 = 0 → (∃ m45 : Nat, f_X12_market_L45 B (f_X12_market_L30 B Q n) Q m45 v0 v1 v2 (1 : Int32) v4 (0 : Int32) Z I L))))) := h
    obtain ⟨K30, eK30⟩ : ∃ K : Nat → Int32 → Int32 → Int32 → Int32 → jZ → jI → jL → Prop, K = f_X12_market_L30 B  Q n := ⟨_, rfl⟩
    have hK30 := ih
    clear eK30 K30
    generalize f_X12_market_L30 B  Q n = K30 at hK30 h
    refine j_iload E dX12_market_30 4 rfl ?_
    refine j_iload_n E dX12_market_32 1 rfl ?_
    refine j_icmp_ge E 124 dX12_market_33 (by decide) (fun c48 => ?_) (fun c48 => ?_)
    · have h := h.1 c48
      refine j_sub [0, 2, 3] rfl ?_
      exact m_X12_market_b124 E EU  v0 v2 v3 Z I L hZ hx hc hb kv0 h
    · have h := h.2 c48
      refine j_iload_n E dX12_market_36 3 rfl ?_
      refine j_if_ne E 124 dX12_market_37 (by decide) (fun c49 => ?_) (fun c49 => ?_)
      · have h := h.1 c49
        refine j_sub [0, 2, 3] rfl ?_
        exact m_X12_market_b124 E EU  v0 v2 v3 Z I L hZ hx hc hb kv0 h
      · have h := h.2 c49
        refine j_iconst E (v := 1) dX12_market_40 (by decide) ?_
        refine j_istore_n E 3 [(3, .int (1 : Int32)), (0, .ref v0), (1, .int v1), (2, .int v2), (4, .int v4)] dX12_market_41 rfl (by decide) rfl ?_
        refine j_iconst E (v := 0) dX12_market_42 (by decide) ?_
        refine j_istore E 5 [(5, .int (0 : Int32)), (3, .int (1 : Int32)), (0, .ref v0), (1, .int v1), (2, .int v2), (4, .int v4)] dX12_market_43 (by decide) rfl ?_
        obtain ⟨n50, h⟩ := h
        refine j_sub [2, 3, 4, 1, 5, 0] rfl ?_
        exact m_X12_market_L45 E EU K30 hK30 n50 v0 v1 v2 (1 : Int32) v4 (0 : Int32) Z I L hZ hx hc hb kv0 h
set_option maxRecDepth 100000 in
def f_X12_market (B : Nat × Nat) (v0 : Nat) (v1 : Int32) (Z : jZ) (I : jI) (L : jL) (Q : Int32 → jZ → jI → jL → Prop) : Prop := (∀ I51 : jI, I51 = jpI I v0 22 (0 : Int32) → (((I51 v0 0) = 0 → Q (-1 : Int32) Z I51 L) ∧ (¬ ((I51 v0 0) = 0) → (f_X12_in v1 (1 : Int32) (3 : Int32) Z I51 L (fun r59 I55 L56 => ((¬ r59 = 0 → (∃ m30 : Nat, f_X12_market_L30 B  Q m30 v0 v1 (0 : Int32) (0 : Int32) (0 : Int32) Z I55 L56)) ∧ (r59 = 0 → Q (-1 : Int32) Z I55 L56)))))))
set_option maxHeartbeats 4000000 in
set_option maxRecDepth 100000 in
theorem c_X12_market (l : Launch) (D : va_G) (cy : jC) (B : Nat × Nat) (v0 : Nat) (v1 : Int32) (Z : jZ) (I : jI) (L : jL) (Q : Int32 → jZ → jI → jL → Prop) (hZ : SH Z) (hb : jin B Z) (kv0 : jk Z v0 12) (h : f_X12_market B v0 v1 Z I L Q) : jCtU l yX12_market w_X12_market B 109 2641 D cy [.ref v0, .int v1] Z I L (urtI B Z Q) := by
  refine jCtU_of (cc := cX12_market) (maxL := 8) (ret := (some .int)) (by decide +kernel) rfl (Nat.le_of_ble_eq_true rfl) ?_
  intro G eD eY eL E EU
  subst eD; subst eY; subst eL
  have E : jE G cX12_market RX12 w_X12_market 8 (some .int) (jrm B 109 2641 Z) jRF := E
  have hx : jext Z Z := jext_rfl
  have hc : jle Z Z := jle_rfl
  show jJ G 8 0 [(0, .ref v0), (1, .int v1)] [] Z I L (jcz Z - jcz Z) (jsz Z - jsz Z)
  refine j_aload_n E dX12_market_0 0 rfl ?_
  refine j_iconst E (v := 0) dX12_market_1 (by decide) ?_
  refine j_puti E 12 22 rfl rfl (by decide) (by decide) (iw iT_12) tyX12_ok nmX12 rfl rfl (tw W_690) rfl rfl rfl kv0 dX12_market_2 ?_
  refine j_nmI (fun I51 eI51 => ?_)
  have h := h I51 eI51
  refine j_aload_n E dX12_market_5 0 rfl ?_
  refine j_geti E 12 0 rfl rfl (by decide) (by decide) (iw iT_12) rfl rfl (tw W_693) kv0 dX12_market_6 ?_
  refine j_if_eq E 21 dX12_market_9 (by decide) (fun c52 => ?_) (fun c52 => ?_)
  · have h := h.1 c52
    refine j_iconst E (v := -1) dX12_market_21 (by decide) ?_
    exact ju_ireturn E EU hc hb ⟨hx, hZ, hb, _, rfl, h⟩ dX12_market_22
  · have h := h.2 c52
    refine j_iload_n E dX12_market_12 1 rfl ?_
    refine j_iconst E (v := 1) dX12_market_13 (by decide) ?_
    refine j_iconst E (v := 3) dX12_market_14 (by decide) ?_
    refine j_callS E [.int v1, .int (1 : Int32), .int (3 : Int32)] [] (c_X12_in (gL G) (gD G) (gY G) v1 (1 : Int32) (3 : Int32) Z I51 L _ hZ  h) (gwS W_696 W_697 W_695 W_694) rfl fy_X12_in ⟨Nat.le_of_ble_eq_true rfl, Nat.le_of_ble_eq_true rfl⟩ rfl rfl (Nat.le_of_ble_eq_true rfl) (ju_kn hb) dX12_market_15 (fun v53 Z54 I55 L56 q57 => ?_)
    obtain ⟨rfl, r59, rfl, zr59, h⟩ := q57
    show jJ G 8 18 [(0, .ref v0), (1, .int v1)] [.int r59] Z I55 L56 (jcz Z - jcz Z) (jsz Z - jsz Z)
    refine j_if_ne E 23 dX12_market_18 (by decide) (fun c60 => ?_) (fun c60 => ?_)
    · have h := h.1 c60
      refine j_iconst E (v := 0) dX12_market_23 (by decide) ?_
      refine j_istore_n E 2 [(2, .int (0 : Int32)), (0, .ref v0), (1, .int v1)] dX12_market_24 rfl (by decide) rfl ?_
      refine j_iconst E (v := 0) dX12_market_25 (by decide) ?_
      refine j_istore_n E 3 [(3, .int (0 : Int32)), (2, .int (0 : Int32)), (0, .ref v0), (1, .int v1)] dX12_market_26 rfl (by decide) rfl ?_
      refine j_iconst E (v := 0) dX12_market_27 (by decide) ?_
      refine j_istore E 4 [(4, .int (0 : Int32)), (3, .int (0 : Int32)), (2, .int (0 : Int32)), (0, .ref v0), (1, .int v1)] dX12_market_28 (by decide) rfl ?_
      obtain ⟨n61, h⟩ := h
      refine j_sub [3, 4, 2, 1, 0] rfl ?_
      exact m_X12_market_L30 E EU  n61 v0 v1 (0 : Int32) (0 : Int32) (0 : Int32) Z I55 L56 hZ hx hc hb kv0 h
    · have h := h.2 c60
      refine j_iconst E (v := -1) dX12_market_21 (by decide) ?_
      exact ju_ireturn E EU hc hb ⟨hx, hZ, hb, _, rfl, h⟩ dX12_market_22
set_option maxRecDepth 100000 in
def f_X12_rememberParts_L55  (Z : jZ) (Q : jI → jL → Prop) : Nat → Nat → Int32 → Int32 → jI → jL → Prop
  | 0 => fun _ _ _ _ _ => False
  | n + 1 => fun v0 v1 v2 I L => ((v1 ≤ v2 → (∀ I2 : jI, I2 = jpI I v0 52 ((I v0 52) + (1 : Int32)) → Q I2 L)) ∧ (¬ (v1 ≤ v2) → (∀ b3 : Nat, jr Z v0 53 = some b3 → (∀ b4 : Nat, jr Z v0 54 = some b4 → (vp_in v2 192 ∧ (vp_in ((v1 * (I v0 52)) + v2) 1536 ∧ (∀ I7 : jI, I7 = jpI I b3 ((v1 * (I v0 52)) + v2).toNatClampNeg (I b4 v2.toNatClampNeg) → (∀ x8 : Int32, x8 = v2 + 1 → (f_X12_rememberParts_L55 Z Q n) v0 v1 x8 I7 L))))))))
set_option maxHeartbeats 4000000 in
set_option maxRecDepth 100000 in
theorem m_X12_rememberParts_L55 {G : jG} {Z : jZ} {Q : jI → jL → Prop} (E : jE G cX12_rememberParts RX12 w_X12_rememberParts 3 none { frames := 0, cells := 0, slots := 0, locals := 0 } (rtV Z Q)) (hZ : SH Z)  : ∀ (n : Nat) (v0 : Nat) (v1 : Int32) (v2 : Int32) (I : jI) (L : jL), jk Z v0 12 → f_X12_rememberParts_L55  Z Q n v0 v1 v2 I L → jJ G 3 55 [(0, .ref v0), (1, .int v1), (2, .int v2)] [] Z I L 0 0 := by
  intro n
  induction n with
  | zero => intro v0 v1 v2 I L _ h; exact h.elim
  | succ n ih =>
    intro v0 v1 v2 I L kv0 h
    have h : ((v1 ≤ v2 → (∀ I2 : jI, I2 = jpI I v0 52 ((I v0 52) + (1 : Int32)) → Q I2 L)) ∧ (¬ (v1 ≤ v2) → (∀ b3 : Nat, jr Z v0 53 = some b3 → (∀ b4 : Nat, jr Z v0 54 = some b4 → (vp_in v2 192 ∧ (vp_in ((v1 * (I v0 52)) + v2) 1536 ∧ (∀ I7 : jI, I7 = jpI I b3 ((v1 * (I v0 52)) + v2).toNatClampNeg (I b4 v2.toNatClampNeg) → (∀ x8 : Int32, x8 = v2 + 1 → (f_X12_rememberParts_L55 Z Q n) v0 v1 x8 I7 L)))))))) := h
    obtain ⟨K55, eK55⟩ : ∃ K : Nat → Int32 → Int32 → jI → jL → Prop, K = f_X12_rememberParts_L55  Z Q n := ⟨_, rfl⟩
    have hK55 := ih
    clear eK55 K55
    generalize f_X12_rememberParts_L55  Z Q n = K55 at hK55 h
    refine j_iload_n E dX12_rememberParts_55 2 rfl ?_
    refine j_iload_n E dX12_rememberParts_56 1 rfl ?_
    refine j_icmp_ge E 85 dX12_rememberParts_57 (by decide) (fun c1 => ?_) (fun c1 => ?_)
    · have h := h.1 c1
      refine j_aload_n E dX12_rememberParts_85 0 rfl ?_
      refine j_dup E dX12_rememberParts_86 rfl ?_
      refine j_geti E 12 52 rfl rfl (by decide) (by decide) (iw iT_12) rfl rfl (tw W_740) kv0 dX12_rememberParts_87 ?_
      refine j_iconst E (v := 1) dX12_rememberParts_90 (by decide) ?_
      refine j_iadd E dX12_rememberParts_91 ?_
      refine j_puti E 12 52 rfl rfl (by decide) (by decide) (iw iT_12) tyX12_ok nmX12 rfl rfl (tw W_740) rfl rfl rfl kv0 dX12_rememberParts_92 ?_
      refine j_nmI (fun I2 eI2 => ?_)
      have h := h I2 eI2
      exact j_return E ⟨rfl, rfl, h⟩ (Nat.zero_le _) (Nat.zero_le _) dX12_rememberParts_95
    · have h := h.2 c1
      refine j_aload_n E dX12_rememberParts_60 0 rfl ?_
      obtain ⟨b3, eb3, kb3, lb3⟩ := sh_f hZ kv0 (j := 53) (k := 14) (m := 1536) rfl
      have h := h b3 eb3
      refine j_getr E 12 53 rfl rfl (by decide) (by decide) (iw iT_12) rfl rfl (tw W_909) kv0 eb3 dX12_rememberParts_61 ?_
      refine j_iload_n E dX12_rememberParts_64 1 rfl ?_
      refine j_aload_n E dX12_rememberParts_65 0 rfl ?_
      refine j_geti E 12 52 rfl rfl (by decide) (by decide) (iw iT_12) rfl rfl (tw W_740) kv0 dX12_rememberParts_66 ?_
      refine j_imul E dX12_rememberParts_69 ?_
      refine j_iload_n E dX12_rememberParts_70 2 rfl ?_
      refine j_iadd E dX12_rememberParts_71 ?_
      refine j_aload_n E dX12_rememberParts_72 0 rfl ?_
      obtain ⟨b4, eb4, kb4, lb4⟩ := sh_f hZ kv0 (j := 54) (k := 14) (m := 192) rfl
      have h := h b4 eb4
      refine j_getr E 12 54 rfl rfl (by decide) (by decide) (iw iT_12) rfl rfl (tw W_910) kv0 eb4 dX12_rememberParts_73 ?_
      refine j_iload_n E dX12_rememberParts_76 2 rfl ?_
      obtain ⟨o5, h⟩ := h
      refine j_iald E kb4 (by rw [lb4]; exact o5) dX12_rememberParts_77 ?_
      obtain ⟨o6, h⟩ := h
      refine j_iast E kb3 (by rw [lb3]; exact o6) dX12_rememberParts_78 ?_
      refine j_nmI (fun I7 eI7 => ?_)
      have h := h I7 eI7
      obtain ⟨x8, ex8⟩ : ∃ y : Int32, y = v2 + 1 := ⟨_, rfl⟩
      have h := h x8 ex8
      refine j_iinc E x8 [(2, .int x8), (0, .ref v0), (1, .int v1)] dX12_rememberParts_79 2 rfl (by rw [ex8]; rfl) (by decide) rfl ?_
      refine j_goto E 55 dX12_rememberParts_82 (by decide) ?_
      refine j_sub [1, 2, 0] rfl ?_
      exact hK55 v0 v1 x8 I7 L kv0 h
set_option maxRecDepth 100000 in
def f_X12_rememberParts_b53  (Z : jZ) (Q : jI → jL → Prop) (v0 : Nat) (v1 : Int32) (I : jI) (L : jL) : Prop := (∃ m55 : Nat, f_X12_rememberParts_L55  Z Q m55 v0 v1 (0 : Int32) I L)
set_option maxHeartbeats 4000000 in
set_option maxRecDepth 100000 in
theorem m_X12_rememberParts_b53 {G : jG} {Z : jZ} {Q : jI → jL → Prop} (E : jE G cX12_rememberParts RX12 w_X12_rememberParts 3 none { frames := 0, cells := 0, slots := 0, locals := 0 } (rtV Z Q)) (hZ : SH Z)  (v0 : Nat) (v1 : Int32) (I : jI) (L : jL) (kv0 : jk Z v0 12) (h : f_X12_rememberParts_b53  Z Q v0 v1 I L) : jJ G 3 53 [(0, .ref v0), (1, .int v1)] [] Z I L 0 0 := by
  refine j_iconst E (v := 0) dX12_rememberParts_53 (by decide) ?_
  refine j_istore_n E 2 [(2, .int (0 : Int32)), (0, .ref v0), (1, .int v1)] dX12_rememberParts_54 rfl (by decide) rfl ?_
  obtain ⟨n9, h⟩ := h
  refine j_sub [1, 2, 0] rfl ?_
  exact m_X12_rememberParts_L55 E hZ  n9 v0 v1 (0 : Int32) I L kv0 h
set_option maxRecDepth 100000 in
def f_X12_rememberParts_L15  (Z : jZ) (Q : jI → jL → Prop) : Nat → Nat → Int32 → Int32 → jI → jL → Prop
  | 0 => fun _ _ _ _ _ => False
  | n + 1 => fun v0 v1 v2 I L => (((v1 * (7 : Int32)) ≤ v2 → (∀ I11 : jI, I11 = jpI I v0 52 ((I v0 52) - (1 : Int32)) → f_X12_rememberParts_b53  Z Q v0 v1 I11 L)) ∧ (¬ ((v1 * (7 : Int32)) ≤ v2) → (∀ b12 : Nat, jr Z v0 53 = some b12 → (∀ b13 : Nat, jr Z v0 53 = some b13 → (vp_in (v2 + v1) 1536 ∧ (vp_in v2 1536 ∧ (∀ I16 : jI, I16 = jpI I b12 v2.toNatClampNeg (I b13 (v2 + v1).toNatClampNeg) → (∀ x17 : Int32, x17 = v2 + 1 → (f_X12_rememberParts_L15 Z Q n) v0 v1 x17 I16 L))))))))
set_option maxHeartbeats 4000000 in
set_option maxRecDepth 100000 in
theorem m_X12_rememberParts_L15 {G : jG} {Z : jZ} {Q : jI → jL → Prop} (E : jE G cX12_rememberParts RX12 w_X12_rememberParts 3 none { frames := 0, cells := 0, slots := 0, locals := 0 } (rtV Z Q)) (hZ : SH Z)  : ∀ (n : Nat) (v0 : Nat) (v1 : Int32) (v2 : Int32) (I : jI) (L : jL), jk Z v0 12 → f_X12_rememberParts_L15  Z Q n v0 v1 v2 I L → jJ G 3 15 [(0, .ref v0), (1, .int v1), (2, .int v2)] [] Z I L 0 0 := by
  intro n
  induction n with
  | zero => intro v0 v1 v2 I L _ h; exact h.elim
  | succ n ih =>
    intro v0 v1 v2 I L kv0 h
    have h : (((v1 * (7 : Int32)) ≤ v2 → (∀ I11 : jI, I11 = jpI I v0 52 ((I v0 52) - (1 : Int32)) → f_X12_rememberParts_b53  Z Q v0 v1 I11 L)) ∧ (¬ ((v1 * (7 : Int32)) ≤ v2) → (∀ b12 : Nat, jr Z v0 53 = some b12 → (∀ b13 : Nat, jr Z v0 53 = some b13 → (vp_in (v2 + v1) 1536 ∧ (vp_in v2 1536 ∧ (∀ I16 : jI, I16 = jpI I b12 v2.toNatClampNeg (I b13 (v2 + v1).toNatClampNeg) → (∀ x17 : Int32, x17 = v2 + 1 → (f_X12_rememberParts_L15 Z Q n) v0 v1 x17 I16 L)))))))) := h
    obtain ⟨K15, eK15⟩ : ∃ K : Nat → Int32 → Int32 → jI → jL → Prop, K = f_X12_rememberParts_L15  Z Q n := ⟨_, rfl⟩
    have hK15 := ih
    clear eK15 K15
    generalize f_X12_rememberParts_L15  Z Q n = K15 at hK15 h
    refine j_iload_n E dX12_rememberParts_15 2 rfl ?_
    refine j_iload_n E dX12_rememberParts_16 1 rfl ?_
    refine j_bipush E (v := 7) dX12_rememberParts_17 (by decide) ?_
    refine j_imul E dX12_rememberParts_19 ?_
    refine j_icmp_ge E 43 dX12_rememberParts_20 (by decide) (fun c10 => ?_) (fun c10 => ?_)
    · have h := h.1 c10
      refine j_aload_n E dX12_rememberParts_43 0 rfl ?_
      refine j_dup E dX12_rememberParts_44 rfl ?_
      refine j_geti E 12 52 rfl rfl (by decide) (by decide) (iw iT_12) rfl rfl (tw W_740) kv0 dX12_rememberParts_45 ?_
      refine j_iconst E (v := 1) dX12_rememberParts_48 (by decide) ?_
      refine j_isub E dX12_rememberParts_49 ?_
      refine j_puti E 12 52 rfl rfl (by decide) (by decide) (iw iT_12) tyX12_ok nmX12 rfl rfl (tw W_740) rfl rfl rfl kv0 dX12_rememberParts_50 ?_
      refine j_nmI (fun I11 eI11 => ?_)
      have h := h I11 eI11
      refine j_sub [0, 1] rfl ?_
      exact m_X12_rememberParts_b53 E hZ  v0 v1 I11 L kv0 h
    · have h := h.2 c10
      refine j_aload_n E dX12_rememberParts_23 0 rfl ?_
      obtain ⟨b12, eb12, kb12, lb12⟩ := sh_f hZ kv0 (j := 53) (k := 14) (m := 1536) rfl
      have h := h b12 eb12
      refine j_getr E 12 53 rfl rfl (by decide) (by decide) (iw iT_12) rfl rfl (tw W_909) kv0 eb12 dX12_rememberParts_24 ?_
      refine j_iload_n E dX12_rememberParts_27 2 rfl ?_
      refine j_aload_n E dX12_rememberParts_28 0 rfl ?_
      obtain ⟨b13, eb13, kb13, lb13⟩ := sh_f hZ kv0 (j := 53) (k := 14) (m := 1536) rfl
      have h := h b13 eb13
      refine j_getr E 12 53 rfl rfl (by decide) (by decide) (iw iT_12) rfl rfl (tw W_909) kv0 eb13 dX12_rememberParts_29 ?_
      refine j_iload_n E dX12_rememberParts_32 2 rfl ?_
      refine j_iload_n E dX12_rememberParts_33 1 rfl ?_
      refine j_iadd E dX12_rememberParts_34 ?_
      obtain ⟨o14, h⟩ := h
      refine j_iald E kb13 (by rw [lb13]; exact o14) dX12_rememberParts_35 ?_
      obtain ⟨o15, h⟩ := h
      refine j_iast E kb12 (by rw [lb12]; exact o15) dX12_rememberParts_36 ?_
      refine j_nmI (fun I16 eI16 => ?_)
      have h := h I16 eI16
      obtain ⟨x17, ex17⟩ : ∃ y : Int32, y = v2 + 1 := ⟨_, rfl⟩
      have h := h x17 ex17
      refine j_iinc E x17 [(2, .int x17), (0, .ref v0), (1, .int v1)] dX12_rememberParts_37 2 rfl (by rw [ex17]; rfl) (by decide) rfl ?_
      refine j_goto E 15 dX12_rememberParts_40 (by decide) ?_
      refine j_sub [1, 2, 0] rfl ?_
      exact hK15 v0 v1 x17 I16 L kv0 h
set_option maxRecDepth 100000 in
def f_X12_rememberParts (v0 : Nat) (Z : jZ) (I : jI) (L : jL) (Q : jI → jL → Prop) : Prop := ((¬ (I v0 52) = (8 : Int32) → f_X12_rememberParts_b53  Z Q v0 (192 : Int32) I L) ∧ ((I v0 52) = (8 : Int32) → (∃ m15 : Nat, f_X12_rememberParts_L15  Z Q m15 v0 (192 : Int32) (0 : Int32) I L)))
set_option maxHeartbeats 4000000 in
set_option maxRecDepth 100000 in
theorem c_X12_rememberParts (l : Launch) (D : va_G) (cy : jC) (v0 : Nat) (Z : jZ) (I : jI) (L : jL) (Q : jI → jL → Prop) (hZ : SH Z) (kv0 : jk Z v0 12) (h : f_X12_rememberParts v0 Z I L Q) : jCt l yX12_rememberParts w_X12_rememberParts { frames := 0, cells := 0, slots := 0, locals := 0 } D cy [.ref v0] Z I L (rtV Z Q) := by
  refine jCt_of (cc := cX12_rememberParts) (maxL := 3) (ret := none) (by decide +kernel) rfl (Nat.le_of_ble_eq_true rfl) ?_
  intro G eD eY eL E
  subst eD; subst eY; subst eL
  have E : jE G cX12_rememberParts RX12 w_X12_rememberParts 3 none { frames := 0, cells := 0, slots := 0, locals := 0 } (rtV Z Q) := E
  show jJ G 3 0 [(0, .ref v0)] [] Z I L 0 0
  refine j_sipush E (v := 192) dX12_rememberParts_0 (by decide) ?_
  refine j_istore_n E 1 [(1, .int (192 : Int32)), (0, .ref v0)] dX12_rememberParts_3 rfl (by decide) rfl ?_
  refine j_aload_n E dX12_rememberParts_4 1 rfl ?_
  refine j_geti E 12 52 rfl rfl (by decide) (by decide) (iw iT_12) rfl rfl (tw W_740) kv0 dX12_rememberParts_5 ?_
  refine j_bipush E (v := 8) dX12_rememberParts_8 (by decide) ?_
  refine j_icmp_ne E 53 dX12_rememberParts_10 (by decide) (fun c18 => ?_) (fun c18 => ?_)
  · have h := h.1 c18
    refine j_sub [1, 0] rfl ?_
    exact m_X12_rememberParts_b53 E hZ  v0 (192 : Int32) I L kv0 h
  · have h := h.2 c18
    refine j_iconst E (v := 0) dX12_rememberParts_13 (by decide) ?_
    refine j_istore_n E 2 [(2, .int (0 : Int32)), (1, .int (192 : Int32)), (0, .ref v0)] dX12_rememberParts_14 rfl (by decide) rfl ?_
    obtain ⟨n19, h⟩ := h
    refine j_sub [2, 1, 0] rfl ?_
    exact m_X12_rememberParts_L15 E hZ  n19 v0 (192 : Int32) (0 : Int32) I L kv0 h
set_option maxRecDepth 100000 in
def f_X12_parts (v0 : Nat) (v1 : Int32) (v2 : Int32) (Z : jZ) (I : jI) (L : jL) (Q : Int32 → jI → jL → Prop) : Prop := (∀ I1 : jI, I1 = jpI I v0 22 (0 : Int32) → (f_X12_isStep v0 v1 Z I1 L (fun r8 I4 L5 => ((r8 = 0 → Q (-1 : Int32) I4 L5) ∧ (¬ (r8 = 0) → (f_X12_isFamily v2 Z I4 L5 (fun r16 I12 L13 => ((r16 = 0 → Q (-1 : Int32) I12 L13) ∧ (¬ (r16 = 0) → (∀ b18 : Nat, jr Z v0 5 = some b18 → (vp_in (((8 : Int32) * v1) + v2) 192 ∧ Q (I12 b18 (((8 : Int32) * v1) + v2).toNatClampNeg) I12 L13)))))))))))
set_option maxHeartbeats 4000000 in
set_option maxRecDepth 100000 in
theorem c_X12_parts (l : Launch) (D : va_G) (cy : jC) (v0 : Nat) (v1 : Int32) (v2 : Int32) (Z : jZ) (I : jI) (L : jL) (Q : Int32 → jI → jL → Prop) (hZ : SH Z) (kv0 : jk Z v0 12) (h : f_X12_parts v0 v1 v2 Z I L Q) : jCt l yX12_parts w_X12_parts { frames := 2, cells := 0, slots := 0, locals := 43 } D cy [.ref v0, .int v1, .int v2] Z I L (rtI Z Q) := by
  refine jCt_of (cc := cX12_parts) (maxL := 3) (ret := (some .int)) (by decide +kernel) rfl (Nat.le_of_ble_eq_true rfl) ?_
  intro G eD eY eL E
  subst eD; subst eY; subst eL
  have E : jE G cX12_parts RX12 w_X12_parts 3 (some .int) { frames := 2, cells := 0, slots := 0, locals := 43 } (rtI Z Q) := E
  show jJ G 3 0 [(0, .ref v0), (1, .int v1), (2, .int v2)] [] Z I L 0 0
  refine j_aload_n E dX12_parts_0 0 rfl ?_
  refine j_iconst E (v := 0) dX12_parts_1 (by decide) ?_
  refine j_puti E 12 22 rfl rfl (by decide) (by decide) (iw iT_12) tyX12_ok nmX12 rfl rfl (tw W_690) rfl rfl rfl kv0 dX12_parts_2 ?_
  refine j_nmI (fun I1 eI1 => ?_)
  have h := h I1 eI1
  refine j_aload_n E dX12_parts_5 0 rfl ?_
  refine j_iload_n E dX12_parts_6 1 rfl ?_
  refine j_callV E [.int v1] [] (c_X12_isStep (gL G) (gD G) (gY G) v0 v1 Z I1 L _ hZ kv0 h) (gwV W_790 W_791 W_792 W_695 W_789) rfl ⟨rfl, fy_X12_isStep⟩ ⟨by decide, by decide⟩ (c := 12) rfl (by decide) kv0 rfl rfl (Nat.le_of_ble_eq_true rfl) ⟨Nat.zero_le _, Nat.zero_le _⟩ dX12_parts_7 (fun v2 Z3 I4 L5 q6 => ?_)
  obtain ⟨rfl, r8, rfl, zr8, h⟩ := q6
  show jJ G 3 10 [(0, .ref v0), (1, .int v1), (2, .int v2)] [.int r8] Z I4 L5 0 0
  refine j_if_eq E 34 dX12_parts_10 (by decide) (fun c9 => ?_) (fun c9 => ?_)
  · have h := h.1 c9
    refine j_iconst E (v := -1) dX12_parts_34 (by decide) ?_
    exact j_ireturn E ⟨rfl, _, rfl, h⟩ (Nat.zero_le _) (Nat.zero_le _) dX12_parts_35
  · have h := h.2 c9
    refine j_iload_n E dX12_parts_13 2 rfl ?_
    refine j_callS E [.int v2] [] (c_X12_isFamily (gL G) (gD G) (gY G) v2 Z I4 L5 _ hZ  h) (gwS W_794 W_795 W_695 W_793) rfl fy_X12_isFamily ⟨by decide, by decide⟩ rfl rfl (Nat.le_of_ble_eq_true rfl) ⟨Nat.zero_le _, Nat.zero_le _⟩ dX12_parts_14 (fun v10 Z11 I12 L13 q14 => ?_)
    obtain ⟨rfl, r16, rfl, zr16, h⟩ := q14
    show jJ G 3 17 [(0, .ref v0), (1, .int v1), (2, .int v2)] [.int r16] Z I12 L13 0 0
    refine j_if_eq E 34 dX12_parts_17 (by decide) (fun c17 => ?_) (fun c17 => ?_)
    · have h := h.1 c17
      refine j_iconst E (v := -1) dX12_parts_34 (by decide) ?_
      exact j_ireturn E ⟨rfl, _, rfl, h⟩ (Nat.zero_le _) (Nat.zero_le _) dX12_parts_35
    · have h := h.2 c17
      refine j_aload_n E dX12_parts_20 0 rfl ?_
      obtain ⟨b18, eb18, kb18, lb18⟩ := sh_f hZ kv0 (j := 5) (k := 14) (m := 192) rfl
      have h := h b18 eb18
      refine j_getr E 12 5 rfl rfl (by decide) (by decide) (iw iT_12) rfl rfl (tw W_699) kv0 eb18 dX12_parts_21 ?_
      refine j_bipush E (v := 8) dX12_parts_24 (by decide) ?_
      refine j_iload_n E dX12_parts_26 1 rfl ?_
      refine j_imul E dX12_parts_27 ?_
      refine j_iload_n E dX12_parts_28 2 rfl ?_
      refine j_iadd E dX12_parts_29 ?_
      obtain ⟨o19, h⟩ := h
      refine j_iald E kb18 (by rw [lb18]; exact o19) dX12_parts_30 ?_
      refine j_goto E 35 dX12_parts_31 (by decide) ?_
      exact j_ireturn E ⟨rfl, _, rfl, h⟩ (Nat.zero_le _) (Nat.zero_le _) dX12_parts_35
set_option maxRecDepth 100000 in
def f_X12_sells_L85  (Z : jZ) (Q : Int32 → jI → jL → Prop) : Nat → Nat → Int32 → Int32 → Int32 → Int32 → Int32 → jI → jL → Prop
  | 0 => fun _ _ _ _ _ _ _ _ => False
  | n + 1 => fun v0 v1 v2 v3 v6 v7 I L => (∀ b1 : Nat, jr Z v0 54 = some b1 → (((192 : Int32) ≤ v7 → (f_X12_rememberParts v0 Z I L (fun I5 L6 => (∀ b9 : Nat, jr Z v0 5 = some b9 → (vp_in (((8 : Int32) * v1) + v2) 192 ∧ (vp_in (((8 : Int32) * v1) + v2) 192 ∧ (∀ I12 : jI, I12 = jpI I5 b9 (((8 : Int32) * v1) + v2).toNatClampNeg ((I5 b9 (((8 : Int32) * v1) + v2).toNatClampNeg) - v6) → (∀ b13 : Nat, jr Z v0 5 = some b13 → (vp_in (((8 : Int32) * v1) + v3) 192 ∧ (vp_in (((8 : Int32) * v1) + v3) 192 ∧ (∀ I16 : jI, I16 = jpI I12 b13 (((8 : Int32) * v1) + v3).toNatClampNeg ((I12 b13 (((8 : Int32) * v1) + v3).toNatClampNeg) + v6) → Q v6 I16 L6))))))))))) ∧ (¬ ((192 : Int32) ≤ v7) → (∀ b17 : Nat, jr Z v0 54 = some b17 → (∀ b18 : Nat, jr Z v0 5 = some b18 → (vp_in v7 192 ∧ (vp_in v7 192 ∧ (∀ I21 : jI, I21 = jpI I b17 v7.toNatClampNeg (I b18 v7.toNatClampNeg) → (∀ x22 : Int32, x22 = v7 + 1 → (f_X12_sells_L85 Z Q n) v0 v1 v2 v3 v6 x22 I21 L)))))))))
set_option maxHeartbeats 4000000 in
set_option maxRecDepth 100000 in
theorem m_X12_sells_L85 {G : jG} {Z : jZ} {Q : Int32 → jI → jL → Prop} (E : jE G cX12_sells RX12 w_X12_sells 8 (some .int) { frames := 2, cells := 0, slots := 0, locals := 43 } (rtI Z Q)) (hZ : SH Z)  : ∀ (n : Nat) (v0 : Nat) (v1 : Int32) (v2 : Int32) (v3 : Int32) (v6 : Int32) (v7 : Int32) (I : jI) (L : jL), jk Z v0 12 → f_X12_sells_L85  Z Q n v0 v1 v2 v3 v6 v7 I L → jJ G 8 85 [(0, .ref v0), (1, .int v1), (2, .int v2), (3, .int v3), (6, .int v6), (7, .int v7)] [] Z I L 0 0 := by
  intro n
  induction n with
  | zero => intro v0 v1 v2 v3 v6 v7 I L _ h; exact h.elim
  | succ n ih =>
    intro v0 v1 v2 v3 v6 v7 I L kv0 h
    have h : (∀ b1 : Nat, jr Z v0 54 = some b1 → (((192 : Int32) ≤ v7 → (f_X12_rememberParts v0 Z I L (fun I5 L6 => (∀ b9 : Nat, jr Z v0 5 = some b9 → (vp_in (((8 : Int32) * v1) + v2) 192 ∧ (vp_in (((8 : Int32) * v1) + v2) 192 ∧ (∀ I12 : jI, I12 = jpI I5 b9 (((8 : Int32) * v1) + v2).toNatClampNeg ((I5 b9 (((8 : Int32) * v1) + v2).toNatClampNeg) - v6) → (∀ b13 : Nat, jr Z v0 5 = some b13 → (vp_in (((8 : Int32) * v1) + v3) 192 ∧ (vp_in (((8 : Int32) * v1) + v3) 192 ∧ (∀ I16 : jI, I16 = jpI I12 b13 (((8 : Int32) * v1) + v3).toNatClampNeg ((I12 b13 (((8 : Int32) * v1) + v3).toNatClampNeg) + v6) → Q v6 I16 L6))))))))))) ∧ (¬ ((192 : Int32) ≤ v7) → (∀ b17 : Nat, jr Z v0 54 = some b17 → (∀ b18 : Nat, jr Z v0 5 = some b18 → (vp_in v7 192 ∧ (vp_in v7 192 ∧ (∀ I21 : jI, I21 = jpI I b17 v7.toNatClampNeg (I b18 v7.toNatClampNeg) → (∀ x22 : Int32, x22 = v7 + 1 → (f_X12_sells_L85 Z Q n) v0 v1 v2 v3 v6 x22 I21 L))))))))) := h
    obtain ⟨K85, eK85⟩ : ∃ K : Nat → Int32 → Int32 → Int32 → Int32 → Int32 → jI → jL → Prop, K = f_X12_sells_L85  Z Q n := ⟨_, rfl⟩
    have hK85 := ih
    clear eK85 K85
    generalize f_X12_sells_L85  Z Q n = K85 at hK85 h
    refine j_iload E dX12_sells_85 5 rfl ?_
    refine j_aload_n E dX12_sells_87 0 rfl ?_
    obtain ⟨b1, eb1, kb1, lb1⟩ := sh_f hZ kv0 (j := 54) (k := 14) (m := 192) rfl
    have h := h b1 eb1
    refine j_getr E 12 54 rfl rfl (by decide) (by decide) (iw iT_12) rfl rfl (tw W_910) kv0 eb1 dX12_sells_88 ?_
    refine j_alen14 E (v := 192) kb1 (by rw [lb1]; rfl) dX12_sells_91 ?_
    refine j_icmp_ge E 115 dX12_sells_92 (by decide) (fun c2 => ?_) (fun c2 => ?_)
    · have h := h.1 c2
      refine j_aload_n E dX12_sells_115 0 rfl ?_
      refine j_callV E [] [] (c_X12_rememberParts (gL G) (gD G) (gY G) v0 Z I L _ hZ kv0 h) (gwV W_912 W_913 W_914 W_695 W_911) rfl ⟨rfl, fy_X12_rememberParts⟩ ⟨by decide, by decide⟩ (c := 12) rfl (by decide) kv0 rfl rfl (Nat.le_of_ble_eq_true rfl) ⟨Nat.zero_le _, Nat.zero_le _⟩ dX12_sells_116 (fun v3 Z4 I5 L6 q7 => ?_)
      obtain ⟨rfl, rfl, h⟩ := q7
      show jJ G 8 119 [(0, .ref v0), (1, .int v1), (2, .int v2), (3, .int v3), (6, .int v6), (7, .int v7)] [] Z I5 L6 0 0
      refine j_aload_n E dX12_sells_119 0 rfl ?_
      obtain ⟨b9, eb9, kb9, lb9⟩ := sh_f hZ kv0 (j := 5) (k := 14) (m := 192) rfl
      have h := h b9 eb9
      refine j_getr E 12 5 rfl rfl (by decide) (by decide) (iw iT_12) rfl rfl (tw W_699) kv0 eb9 dX12_sells_120 ?_
      refine j_bipush E (v := 8) dX12_sells_123 (by decide) ?_
      refine j_iload_n E dX12_sells_125 1 rfl ?_
      refine j_imul E dX12_sells_126 ?_
      refine j_iload_n E dX12_sells_127 2 rfl ?_
      refine j_iadd E dX12_sells_128 ?_
      refine j_dup2_11 E dX12_sells_129 rfl rfl ?_
      obtain ⟨o10, h⟩ := h
      refine j_iald E kb9 (by rw [lb9]; exact o10) dX12_sells_130 ?_
      refine j_iload E dX12_sells_131 4 rfl ?_
      refine j_isub E dX12_sells_133 ?_
      obtain ⟨o11, h⟩ := h
      refine j_iast E kb9 (by rw [lb9]; exact o11) dX12_sells_134 ?_
      refine j_nmI (fun I12 eI12 => ?_)
      have h := h I12 eI12
      refine j_aload_n E dX12_sells_135 0 rfl ?_
      obtain ⟨b13, eb13, kb13, lb13⟩ := sh_f hZ kv0 (j := 5) (k := 14) (m := 192) rfl
      have h := h b13 eb13
      refine j_getr E 12 5 rfl rfl (by decide) (by decide) (iw iT_12) rfl rfl (tw W_699) kv0 eb13 dX12_sells_136 ?_
      refine j_bipush E (v := 8) dX12_sells_139 (by decide) ?_
      refine j_iload_n E dX12_sells_141 1 rfl ?_
      refine j_imul E dX12_sells_142 ?_
      refine j_iload_n E dX12_sells_143 3 rfl ?_
      refine j_iadd E dX12_sells_144 ?_
      refine j_dup2_11 E dX12_sells_145 rfl rfl ?_
      obtain ⟨o14, h⟩ := h
      refine j_iald E kb13 (by rw [lb13]; exact o14) dX12_sells_146 ?_
      refine j_iload E dX12_sells_147 4 rfl ?_
      refine j_iadd E dX12_sells_149 ?_
      obtain ⟨o15, h⟩ := h
      refine j_iast E kb13 (by rw [lb13]; exact o15) dX12_sells_150 ?_
      refine j_nmI (fun I16 eI16 => ?_)
      have h := h I16 eI16
      refine j_iload E dX12_sells_151 4 rfl ?_
      exact j_ireturn E ⟨rfl, _, rfl, h⟩ (Nat.zero_le _) (Nat.zero_le _) dX12_sells_153
    · have h := h.2 c2
      refine j_aload_n E dX12_sells_95 0 rfl ?_
      obtain ⟨b17, eb17, kb17, lb17⟩ := sh_f hZ kv0 (j := 54) (k := 14) (m := 192) rfl
      have h := h b17 eb17
      refine j_getr E 12 54 rfl rfl (by decide) (by decide) (iw iT_12) rfl rfl (tw W_910) kv0 eb17 dX12_sells_96 ?_
      refine j_iload E dX12_sells_99 5 rfl ?_
      refine j_aload_n E dX12_sells_101 0 rfl ?_
      obtain ⟨b18, eb18, kb18, lb18⟩ := sh_f hZ kv0 (j := 5) (k := 14) (m := 192) rfl
      have h := h b18 eb18
      refine j_getr E 12 5 rfl rfl (by decide) (by decide) (iw iT_12) rfl rfl (tw W_699) kv0 eb18 dX12_sells_102 ?_
      refine j_iload E dX12_sells_105 5 rfl ?_
      obtain ⟨o19, h⟩ := h
      refine j_iald E kb18 (by rw [lb18]; exact o19) dX12_sells_107 ?_
      obtain ⟨o20, h⟩ := h
      refine j_iast E kb17 (by rw [lb17]; exact o20) dX12_sells_108 ?_
      refine j_nmI (fun I21 eI21 => ?_)
      have h := h I21 eI21
      obtain ⟨x22, ex22⟩ : ∃ y : Int32, y = v7 + 1 := ⟨_, rfl⟩
      have h := h x22 ex22
      refine j_iinc E x22 [(7, .int x22), (0, .ref v0), (1, .int v1), (2, .int v2), (3, .int v3), (6, .int v6)] dX12_sells_109 5 rfl (by rw [ex22]; rfl) (by decide) rfl ?_
      refine j_goto E 85 dX12_sells_112 (by decide) ?_
      refine j_sub [1, 2, 3, 4, 5, 0] rfl ?_
      exact hK85 v0 v1 v2 v3 v6 x22 I21 L kv0 h
set_option maxRecDepth 100000 in
def f_X12_sells (v0 : Nat) (v1 : Int32) (v2 : Int32) (v3 : Int32) (v4 : Int32) (v5 : Int32) (Z : jZ) (I : jI) (L : jL) (Q : Int32 → jI → jL → Prop) : Prop := (∀ I23 : jI, I23 = jpI I v0 22 (0 : Int32) → (f_X12_isStep v0 v1 Z I23 L (fun r30 I26 L27 => ((r30 = 0 → Q (-1 : Int32) I26 L27) ∧ (¬ (r30 = 0) → (f_X12_isFamily v2 Z I26 L27 (fun r38 I34 L35 => ((r38 = 0 → Q (-1 : Int32) I34 L35) ∧ (¬ (r38 = 0) → (f_X12_isFamily v3 Z I34 L35 (fun r46 I42 L43 => ((r46 = 0 → Q (-1 : Int32) I42 L43) ∧ (¬ (r46 = 0) → ((v2 = v3 → Q (-1 : Int32) I42 L43) ∧ (¬ (v2 = v3) → (f_X12_in v5 (1 : Int32) (9 : Int32) Z I42 L43 (fun r55 I51 L52 => ((r55 = 0 → Q (-1 : Int32) I51 L52) ∧ (¬ (r55 = 0) → (f_X12_in v4 (1 : Int32) v5 Z I51 L52 (fun r63 I59 L60 => ((¬ r63 = 0 → (∀ b65 : Nat, jr Z v0 5 = some b65 → (vp_in (((8 : Int32) * v1) + v2) 192 ∧ (¬ v5 = 0 ∧ (∀ x68 : Int32, x68 = (((I59 b65 (((8 : Int32) * v1) + v2).toNatClampNeg) * v4) / v5) → ((¬ x68 = 0 → (∃ m85 : Nat, f_X12_sells_L85  Z Q m85 v0 v1 v2 v3 x68 (0 : Int32) I59 L60)) ∧ (x68 = 0 → Q (-1 : Int32) I59 L60))))))) ∧ (r63 = 0 → Q (-1 : Int32) I59 L60)))))))))))))))))))))))
set_option maxHeartbeats 4000000 in
set_option maxRecDepth 100000 in
theorem c_X12_sells (l : Launch) (D : va_G) (cy : jC) (v0 : Nat) (v1 : Int32) (v2 : Int32) (v3 : Int32) (v4 : Int32) (v5 : Int32) (Z : jZ) (I : jI) (L : jL) (Q : Int32 → jI → jL → Prop) (hZ : SH Z) (kv0 : jk Z v0 12) (h : f_X12_sells v0 v1 v2 v3 v4 v5 Z I L Q) : jCt l yX12_sells w_X12_sells { frames := 2, cells := 0, slots := 0, locals := 43 } D cy [.ref v0, .int v1, .int v2, .int v3, .int v4, .int v5] Z I L (rtI Z Q) := by
  refine jCt_of (cc := cX12_sells) (maxL := 8) (ret := (some .int)) (by decide +kernel) rfl (Nat.le_of_ble_eq_true rfl) ?_
  intro G eD eY eL E
  subst eD; subst eY; subst eL
  have E : jE G cX12_sells RX12 w_X12_sells 8 (some .int) { frames := 2, cells := 0, slots := 0, locals := 43 } (rtI Z Q) := E
  show jJ G 8 0 [(0, .ref v0), (1, .int v1), (2, .int v2), (3, .int v3), (4, .int v4), (5, .int v5)] [] Z I L 0 0
  refine j_aload_n E dX12_sells_0 0 rfl ?_
  refine j_iconst E (v := 0) dX12_sells_1 (by decide) ?_
  refine j_puti E 12 22 rfl rfl (by decide) (by decide) (iw iT_12) tyX12_ok nmX12 rfl rfl (tw W_690) rfl rfl rfl kv0 dX12_sells_2 ?_
  refine j_nmI (fun I23 eI23 => ?_)
  have h := h I23 eI23
  refine j_aload_n E dX12_sells_5 0 rfl ?_
  refine j_iload_n E dX12_sells_6 1 rfl ?_
  refine j_callV E [.int v1] [] (c_X12_isStep (gL G) (gD G) (gY G) v0 v1 Z I23 L _ hZ kv0 h) (gwV W_790 W_791 W_792 W_695 W_789) rfl ⟨rfl, fy_X12_isStep⟩ ⟨by decide, by decide⟩ (c := 12) rfl (by decide) kv0 rfl rfl (Nat.le_of_ble_eq_true rfl) ⟨Nat.zero_le _, Nat.zero_le _⟩ dX12_sells_7 (fun v24 Z25 I26 L27 q28 => ?_)
  obtain ⟨rfl, r30, rfl, zr30, h⟩ := q28
  show jJ G 8 10 [(0, .ref v0), (1, .int v1), (2, .int v2), (3, .int v3), (4, .int v4), (5, .int v5)] [.int r30] Z I26 L27 0 0
  refine j_if_eq E 54 dX12_sells_10 (by decide) (fun c31 => ?_) (fun c31 => ?_)
  · have h := h.1 c31
    refine j_iconst E (v := -1) dX12_sells_54 (by decide) ?_
    exact j_ireturn E ⟨rfl, _, rfl, h⟩ (Nat.zero_le _) (Nat.zero_le _) dX12_sells_55
  · have h := h.2 c31
    refine j_iload_n E dX12_sells_13 2 rfl ?_
    refine j_callS E [.int v2] [] (c_X12_isFamily (gL G) (gD G) (gY G) v2 Z I26 L27 _ hZ  h) (gwS W_794 W_795 W_695 W_793) rfl fy_X12_isFamily ⟨by decide, by decide⟩ rfl rfl (Nat.le_of_ble_eq_true rfl) ⟨Nat.zero_le _, Nat.zero_le _⟩ dX12_sells_14 (fun v32 Z33 I34 L35 q36 => ?_)
    obtain ⟨rfl, r38, rfl, zr38, h⟩ := q36
    show jJ G 8 17 [(0, .ref v0), (1, .int v1), (2, .int v2), (3, .int v3), (4, .int v4), (5, .int v5)] [.int r38] Z I34 L35 0 0
    refine j_if_eq E 54 dX12_sells_17 (by decide) (fun c39 => ?_) (fun c39 => ?_)
    · have h := h.1 c39
      refine j_iconst E (v := -1) dX12_sells_54 (by decide) ?_
      exact j_ireturn E ⟨rfl, _, rfl, h⟩ (Nat.zero_le _) (Nat.zero_le _) dX12_sells_55
    · have h := h.2 c39
      refine j_iload_n E dX12_sells_20 3 rfl ?_
      refine j_callS E [.int v3] [] (c_X12_isFamily (gL G) (gD G) (gY G) v3 Z I34 L35 _ hZ  h) (gwS W_794 W_795 W_695 W_793) rfl fy_X12_isFamily ⟨by decide, by decide⟩ rfl rfl (Nat.le_of_ble_eq_true rfl) ⟨Nat.zero_le _, Nat.zero_le _⟩ dX12_sells_21 (fun v40 Z41 I42 L43 q44 => ?_)
      obtain ⟨rfl, r46, rfl, zr46, h⟩ := q44
      show jJ G 8 24 [(0, .ref v0), (1, .int v1), (2, .int v2), (3, .int v3), (4, .int v4), (5, .int v5)] [.int r46] Z I42 L43 0 0
      refine j_if_eq E 54 dX12_sells_24 (by decide) (fun c47 => ?_) (fun c47 => ?_)
      · have h := h.1 c47
        refine j_iconst E (v := -1) dX12_sells_54 (by decide) ?_
        exact j_ireturn E ⟨rfl, _, rfl, h⟩ (Nat.zero_le _) (Nat.zero_le _) dX12_sells_55
      · have h := h.2 c47
        refine j_iload_n E dX12_sells_27 2 rfl ?_
        refine j_iload_n E dX12_sells_28 3 rfl ?_
        refine j_icmp_eq E 54 dX12_sells_29 (by decide) (fun c48 => ?_) (fun c48 => ?_)
        · have h := h.1 c48
          refine j_iconst E (v := -1) dX12_sells_54 (by decide) ?_
          exact j_ireturn E ⟨rfl, _, rfl, h⟩ (Nat.zero_le _) (Nat.zero_le _) dX12_sells_55
        · have h := h.2 c48
          refine j_iload E dX12_sells_32 5 rfl ?_
          refine j_iconst E (v := 1) dX12_sells_34 (by decide) ?_
          refine j_bipush E (v := 9) dX12_sells_35 (by decide) ?_
          refine j_callS E [.int v5, .int (1 : Int32), .int (9 : Int32)] [] (c_X12_in (gL G) (gD G) (gY G) v5 (1 : Int32) (9 : Int32) Z I42 L43 _ hZ  h) (gwS W_696 W_697 W_695 W_694) rfl fy_X12_in ⟨by decide, by decide⟩ rfl rfl (Nat.le_of_ble_eq_true rfl) ⟨Nat.zero_le _, Nat.zero_le _⟩ dX12_sells_37 (fun v49 Z50 I51 L52 q53 => ?_)
          obtain ⟨rfl, r55, rfl, zr55, h⟩ := q53
          show jJ G 8 40 [(0, .ref v0), (1, .int v1), (2, .int v2), (3, .int v3), (4, .int v4), (5, .int v5)] [.int r55] Z I51 L52 0 0
          refine j_if_eq E 54 dX12_sells_40 (by decide) (fun c56 => ?_) (fun c56 => ?_)
          · have h := h.1 c56
            refine j_iconst E (v := -1) dX12_sells_54 (by decide) ?_
            exact j_ireturn E ⟨rfl, _, rfl, h⟩ (Nat.zero_le _) (Nat.zero_le _) dX12_sells_55
          · have h := h.2 c56
            refine j_iload E dX12_sells_43 4 rfl ?_
            refine j_iconst E (v := 1) dX12_sells_45 (by decide) ?_
            refine j_iload E dX12_sells_46 5 rfl ?_
            refine j_callS E [.int v4, .int (1 : Int32), .int v5] [] (c_X12_in (gL G) (gD G) (gY G) v4 (1 : Int32) v5 Z I51 L52 _ hZ  h) (gwS W_696 W_697 W_695 W_694) rfl fy_X12_in ⟨by decide, by decide⟩ rfl rfl (Nat.le_of_ble_eq_true rfl) ⟨Nat.zero_le _, Nat.zero_le _⟩ dX12_sells_48 (fun v57 Z58 I59 L60 q61 => ?_)
            obtain ⟨rfl, r63, rfl, zr63, h⟩ := q61
            show jJ G 8 51 [(0, .ref v0), (1, .int v1), (2, .int v2), (3, .int v3), (4, .int v4), (5, .int v5)] [.int r63] Z I59 L60 0 0
            refine j_if_ne E 56 dX12_sells_51 (by decide) (fun c64 => ?_) (fun c64 => ?_)
            · have h := h.1 c64
              refine j_aload_n E dX12_sells_56 0 rfl ?_
              obtain ⟨b65, eb65, kb65, lb65⟩ := sh_f hZ kv0 (j := 5) (k := 14) (m := 192) rfl
              have h := h b65 eb65
              refine j_getr E 12 5 rfl rfl (by decide) (by decide) (iw iT_12) rfl rfl (tw W_699) kv0 eb65 dX12_sells_57 ?_
              refine j_bipush E (v := 8) dX12_sells_60 (by decide) ?_
              refine j_iload_n E dX12_sells_62 1 rfl ?_
              refine j_imul E dX12_sells_63 ?_
              refine j_iload_n E dX12_sells_64 2 rfl ?_
              refine j_iadd E dX12_sells_65 ?_
              obtain ⟨o66, h⟩ := h
              refine j_iald E kb65 (by rw [lb65]; exact o66) dX12_sells_66 ?_
              refine j_iload E dX12_sells_67 4 rfl ?_
              refine j_imul E dX12_sells_69 ?_
              refine j_iload E dX12_sells_70 5 rfl ?_
              obtain ⟨o67, h⟩ := h
              refine j_idiv E dX12_sells_72 o67 ?_
              refine j_topi (fun x68 ex68 => ?_)
              have h := h x68 ex68
              refine j_istore E 6 [(6, .int x68), (0, .ref v0), (1, .int v1), (2, .int v2), (3, .int v3), (4, .int v4), (5, .int v5)] dX12_sells_73 (by decide) rfl ?_
              refine j_iload E dX12_sells_75 0 rfl ?_
              refine j_if_ne E 82 dX12_sells_77 (by decide) (fun c69 => ?_) (fun c69 => ?_)
              · have h := h.1 c69
                refine j_iconst E (v := 0) dX12_sells_82 (by decide) ?_
                refine j_istore E 7 [(7, .int (0 : Int32)), (6, .int x68), (0, .ref v0), (1, .int v1), (2, .int v2), (3, .int v3), (4, .int v4), (5, .int v5)] dX12_sells_83 (by decide) rfl ?_
                obtain ⟨n70, h⟩ := h
                refine j_sub [2, 3, 4, 5, 1, 0] rfl ?_
                exact m_X12_sells_L85 E hZ  n70 v0 v1 v2 v3 x68 (0 : Int32) I59 L60 kv0 h
              · have h := h.2 c69
                refine j_iconst E (v := -1) dX12_sells_80 (by decide) ?_
                exact j_ireturn E ⟨rfl, _, rfl, h⟩ (Nat.zero_le _) (Nat.zero_le _) dX12_sells_81
            · have h := h.2 c64
              refine j_iconst E (v := -1) dX12_sells_54 (by decide) ?_
              exact j_ireturn E ⟨rfl, _, rfl, h⟩ (Nat.zero_le _) (Nat.zero_le _) dX12_sells_55
set_option maxRecDepth 100000 in
def f_X12_dies_b172 (K73 : Nat → Int32 → Int32 → Int32 → Int32 → Int32 → jI → jL → Prop) (K115 : Nat → Int32 → Int32 → Int32 → Int32 → Int32 → Int32 → Int32 → Int32 → jI → jL → Prop) (Z : jZ) (Q : Int32 → jI → jL → Prop) (v0 : Nat) (v1 : Int32) (v2 : Int32) (v3 : Int32) (v4 : Int32) (v5 : Int32) (v6 : Int32) (v7 : Int32) (v8 : Int32) (I : jI) (L : jL) : Prop := (∀ x1 : Int32, x1 = v8 + 1 → K115 v0 v1 v2 v3 v4 v5 v6 v7 x1 I L)
set_option maxHeartbeats 4000000 in
set_option maxRecDepth 100000 in
theorem m_X12_dies_b172 {G : jG} {Z : jZ} {Q : Int32 → jI → jL → Prop} (E : jE G cX12_dies RX12 w_X12_dies 9 (some .int) { frames := 2, cells := 0, slots := 0, locals := 42 } (rtI Z Q)) (hZ : SH Z) (K73 : Nat → Int32 → Int32 → Int32 → Int32 → Int32 → jI → jL → Prop) (hK73 : ∀ (v0 : Nat) (v1 : Int32) (v2 : Int32) (v3 : Int32) (v4 : Int32) (v5 : Int32) (I : jI) (L : jL), jk Z v0 12 → K73 v0 v1 v2 v3 v4 v5 I L → jJ G 9 73 [(0, .ref v0), (1, .int v1), (2, .int v2), (3, .int v3), (4, .int v4), (5, .int v5)] [] Z I L 0 0) (K115 : Nat → Int32 → Int32 → Int32 → Int32 → Int32 → Int32 → Int32 → Int32 → jI → jL → Prop) (hK115 : ∀ (v0 : Nat) (v1 : Int32) (v2 : Int32) (v3 : Int32) (v4 : Int32) (v5 : Int32) (v6 : Int32) (v7 : Int32) (v8 : Int32) (I : jI) (L : jL), jk Z v0 12 → K115 v0 v1 v2 v3 v4 v5 v6 v7 v8 I L → jJ G 9 115 [(0, .ref v0), (1, .int v1), (2, .int v2), (3, .int v3), (4, .int v4), (5, .int v5), (6, .int v6), (7, .int v7), (8, .int v8)] [] Z I L 0 0) (v0 : Nat) (v1 : Int32) (v2 : Int32) (v3 : Int32) (v4 : Int32) (v5 : Int32) (v6 : Int32) (v7 : Int32) (v8 : Int32) (I : jI) (L : jL) (kv0 : jk Z v0 12) (h : f_X12_dies_b172 K73 K115 Z Q v0 v1 v2 v3 v4 v5 v6 v7 v8 I L) : jJ G 9 172 [(0, .ref v0), (1, .int v1), (2, .int v2), (3, .int v3), (4, .int v4), (5, .int v5), (6, .int v6), (7, .int v7), (8, .int v8)] [] Z I L 0 0 := by
  obtain ⟨x1, ex1⟩ : ∃ y : Int32, y = v8 + 1 := ⟨_, rfl⟩
  have h := h x1 ex1
  refine j_iinc E x1 [(8, .int x1), (0, .ref v0), (1, .int v1), (2, .int v2), (3, .int v3), (4, .int v4), (5, .int v5), (6, .int v6), (7, .int v7)] dX12_dies_172 8 rfl (by rw [ex1]; rfl) (by decide) rfl ?_
  refine j_goto E 115 dX12_dies_175 (by decide) ?_
  refine j_sub [1, 2, 3, 4, 5, 6, 7, 8, 0] rfl ?_
  exact hK115 v0 v1 v2 v3 v4 v5 v6 v7 x1 I L kv0 h
set_option maxRecDepth 100000 in
def f_X12_dies_b166 (K73 : Nat → Int32 → Int32 → Int32 → Int32 → Int32 → jI → jL → Prop) (K115 : Nat → Int32 → Int32 → Int32 → Int32 → Int32 → Int32 → Int32 → Int32 → jI → jL → Prop) (Z : jZ) (Q : Int32 → jI → jL → Prop) (v0 : Nat) (v1 : Int32) (v2 : Int32) (v3 : Int32) (v4 : Int32) (v5 : Int32) (v6 : Int32) (v7 : Int32) (v8 : Int32) (s0 : Nat) (s1 : Int32) (s2 : Int32) (s3 : Int32) (s4 : Int32) (I : jI) (L : jL) : Prop := (vp_in s1 (jlen Z s0) ∧ (∀ I3 : jI, I3 = jpI I s0 s1.toNatClampNeg (s2 + (s3 + s4)) → (∀ x4 : Int32, x4 = v7 + 1 → f_X12_dies_b172 K73 K115 Z Q v0 v1 v2 v3 v4 v5 v6 x4 v8 I3 L)))
set_option maxHeartbeats 4000000 in
set_option maxRecDepth 100000 in
theorem m_X12_dies_b166 {G : jG} {Z : jZ} {Q : Int32 → jI → jL → Prop} (E : jE G cX12_dies RX12 w_X12_dies 9 (some .int) { frames := 2, cells := 0, slots := 0, locals := 42 } (rtI Z Q)) (hZ : SH Z) (K73 : Nat → Int32 → Int32 → Int32 → Int32 → Int32 → jI → jL → Prop) (hK73 : ∀ (v0 : Nat) (v1 : Int32) (v2 : Int32) (v3 : Int32) (v4 : Int32) (v5 : Int32) (I : jI) (L : jL), jk Z v0 12 → K73 v0 v1 v2 v3 v4 v5 I L → jJ G 9 73 [(0, .ref v0), (1, .int v1), (2, .int v2), (3, .int v3), (4, .int v4), (5, .int v5)] [] Z I L 0 0) (K115 : Nat → Int32 → Int32 → Int32 → Int32 → Int32 → Int32 → Int32 → Int32 → jI → jL → Prop) (hK115 : ∀ (v0 : Nat) (v1 : Int32) (v2 : Int32) (v3 : Int32) (v4 : Int32) (v5 : Int32) (v6 : Int32) (v7 : Int32) (v8 : Int32) (I : jI) (L : jL), jk Z v0 12 → K115 v0 v1 v2 v3 v4 v5 v6 v7 v8 I L → jJ G 9 115 [(0, .ref v0), (1, .int v1), (2, .int v2), (3, .int v3), (4, .int v4), (5, .int v5), (6, .int v6), (7, .int v7), (8, .int v8)] [] Z I L 0 0) (v0 : Nat) (v1 : Int32) (v2 : Int32) (v3 : Int32) (v4 : Int32) (v5 : Int32) (v6 : Int32) (v7 : Int32) (v8 : Int32) (s0 : Nat) (s1 : Int32) (s2 : Int32) (s3 : Int32) (s4 : Int32) (I : jI) (L : jL) (kv0 : jk Z v0 12) (ks0 : jk Z s0 14) (h : f_X12_dies_b166 K73 K115 Z Q v0 v1 v2 v3 v4 v5 v6 v7 v8 s0 s1 s2 s3 s4 I L) : jJ G 9 166 [(0, .ref v0), (1, .int v1), (2, .int v2), (3, .int v3), (4, .int v4), (5, .int v5), (6, .int v6), (7, .int v7), (8, .int v8)] [.int s4, .int s3, .int s2, .int s1, .ref s0] Z I L 0 0 := by
  refine j_iadd E dX12_dies_166 ?_
  refine j_iadd E dX12_dies_167 ?_
  obtain ⟨o2, h⟩ := h
  refine j_iast E ks0 o2 dX12_dies_168 ?_
  refine j_nmI (fun I3 eI3 => ?_)
  have h := h I3 eI3
  obtain ⟨x4, ex4⟩ : ∃ y : Int32, y = v7 + 1 := ⟨_, rfl⟩
  have h := h x4 ex4
  refine j_iinc E x4 [(7, .int x4), (0, .ref v0), (1, .int v1), (2, .int v2), (3, .int v3), (4, .int v4), (5, .int v5), (6, .int v6), (8, .int v8)] dX12_dies_169 7 rfl (by rw [ex4]; rfl) (by decide) rfl ?_
  refine j_sub [1, 2, 3, 4, 5, 6, 7, 0, 8] rfl ?_
  exact m_X12_dies_b172 E hZ K73 hK73 K115 hK115 v0 v1 v2 v3 v4 v5 v6 x4 v8 I3 L kv0 h
set_option maxRecDepth 100000 in
def f_X12_dies_L115 (K73 : Nat → Int32 → Int32 → Int32 → Int32 → Int32 → jI → jL → Prop) (Z : jZ) (Q : Int32 → jI → jL → Prop) : Nat → Nat → Int32 → Int32 → Int32 → Int32 → Int32 → Int32 → Int32 → Int32 → jI → jL → Prop
  | 0 => fun _ _ _ _ _ _ _ _ _ _ _ => False
  | n + 1 => fun v0 v1 v2 v3 v4 v5 v6 v7 v8 I L => (((8 : Int32) ≤ v8 → (∀ x6 : Int32, x6 = (v4 + v6) → (∀ x7 : Int32, x7 = v5 + 1 → K73 v0 v1 v2 v3 x6 x7 I L))) ∧ (¬ ((8 : Int32) ≤ v8) → (f_X12_has v2 v8 Z I L (fun r14 I10 L11 => ((¬ r14 = 0 → (∀ b16 : Nat, jr Z v0 5 = some b16 → (vp_in (((8 : Int32) * v5) + v8) 192 ∧ (¬ v3 = 0 ∧ (¬ v3 = 0 ∧ (((v6 - v6 / v3 * v3) ≤ v7 → f_X12_dies_b166 K73 (f_X12_dies_L115 K73 Z Q n) Z Q v0 v1 v2 v3 v4 v5 v6 v7 v8 b16 (((8 : Int32) * v5) + v8) (I10 b16 (((8 : Int32) * v5) + v8).toNatClampNeg) (v6 / v3) (0 : Int32) I10 L11) ∧ (¬ ((v6 - v6 / v3 * v3) ≤ v7) → f_X12_dies_b166 K73 (f_X12_dies_L115 K73 Z Q n) Z Q v0 v1 v2 v3 v4 v5 v6 v7 v8 b16 (((8 : Int32) * v5) + v8) (I10 b16 (((8 : Int32) * v5) + v8).toNatClampNeg) (v6 / v3) (1 : Int32) I10 L11))))))) ∧ (r14 = 0 → f_X12_dies_b172 K73 (f_X12_dies_L115 K73 Z Q n) Z Q v0 v1 v2 v3 v4 v5 v6 v7 v8 I10 L11))))))
set_option maxHeartbeats 4000000 in
set_option maxRecDepth 100000 in
theorem m_X12_dies_L115 {G : jG} {Z : jZ} {Q : Int32 → jI → jL → Prop} (E : jE G cX12_dies RX12 w_X12_dies 9 (some .int) { frames := 2, cells := 0, slots := 0, locals := 42 } (rtI Z Q)) (hZ : SH Z) (K73 : Nat → Int32 → Int32 → Int32 → Int32 → Int32 → jI → jL → Prop) (hK73 : ∀ (v0 : Nat) (v1 : Int32) (v2 : Int32) (v3 : Int32) (v4 : Int32) (v5 : Int32) (I : jI) (L : jL), jk Z v0 12 → K73 v0 v1 v2 v3 v4 v5 I L → jJ G 9 73 [(0, .ref v0), (1, .int v1), (2, .int v2), (3, .int v3), (4, .int v4), (5, .int v5)] [] Z I L 0 0) : ∀ (n : Nat) (v0 : Nat) (v1 : Int32) (v2 : Int32) (v3 : Int32) (v4 : Int32) (v5 : Int32) (v6 : Int32) (v7 : Int32) (v8 : Int32) (I : jI) (L : jL), jk Z v0 12 → f_X12_dies_L115 K73 Z Q n v0 v1 v2 v3 v4 v5 v6 v7 v8 I L → jJ G 9 115 [(0, .ref v0), (1, .int v1), (2, .int v2), (3, .int v3), (4, .int v4), (5, .int v5), (6, .int v6), (7, .int v7), (8, .int v8)] [] Z I L 0 0 := by
  intro n
  induction n with
  | zero => intro v0 v1 v2 v3 v4 v5 v6 v7 v8 I L _ h; exact h.elim
  | succ n ih =>
    intro v0 v1 v2 v3 v4 v5 v6 v7 v8 I L kv0 h
    have h : (((8 : Int32) ≤ v8 → (∀ x6 : Int32, x6 = (v4 + v6) → (∀ x7 : Int32, x7 = v5 + 1 → K73 v0 v1 v2 v3 x6 x7 I L))) ∧ (¬ ((8 : Int32) ≤ v8) → (f_X12_has v2 v8 Z I L (fun r14 I10 L11 => ((¬ r14 = 0 → (∀ b16 : Nat, jr Z v0 5 = some b16 → (vp_in (((8 : Int32) * v5) + v8) 192 ∧ (¬ v3 = 0 ∧ (¬ v3 = 0 ∧ (((v6 - v6 / v3 * v3) ≤ v7 → f_X12_dies_b166 K73 (f_X12_dies_L115 K73 Z Q n) Z Q v0 v1 v2 v3 v4 v5 v6 v7 v8 b16 (((8 : Int32) * v5) + v8) (I10 b16 (((8 : Int32) * v5) + v8).toNatClampNeg) (v6 / v3) (0 : Int32) I10 L11) ∧ (¬ ((v6 - v6 / v3 * v3) ≤ v7) → f_X12_dies_b166 K73 (f_X12_dies_L115 K73 Z Q n) Z Q v0 v1 v2 v3 v4 v5 v6 v7 v8 b16 (((8 : Int32) * v5) + v8) (I10 b16 (((8 : Int32) * v5) + v8).toNatClampNeg) (v6 / v3) (1 : Int32) I10 L11))))))) ∧ (r14 = 0 → f_X12_dies_b172 K73 (f_X12_dies_L115 K73 Z Q n) Z Q v0 v1 v2 v3 v4 v5 v6 v7 v8 I10 L11)))))) := h
    obtain ⟨K115, eK115⟩ : ∃ K : Nat → Int32 → Int32 → Int32 → Int32 → Int32 → Int32 → Int32 → Int32 → jI → jL → Prop, K = f_X12_dies_L115 K73 Z Q n := ⟨_, rfl⟩
    have hK115 := ih
    clear eK115 K115
    generalize f_X12_dies_L115 K73 Z Q n = K115 at hK115 h
    refine j_iload E dX12_dies_115 8 rfl ?_
    refine j_bipush E (v := 8) dX12_dies_117 (by decide) ?_
    refine j_icmp_ge E 178 dX12_dies_119 (by decide) (fun c5 => ?_) (fun c5 => ?_)
    · have h := h.1 c5
      refine j_iload E dX12_dies_178 4 rfl ?_
      refine j_iload E dX12_dies_180 6 rfl ?_
      refine j_iadd E dX12_dies_182 ?_
      refine j_topi (fun x6 ex6 => ?_)
      have h := h x6 ex6
      refine j_istore E 4 [(4, .int x6), (0, .ref v0), (1, .int v1), (2, .int v2), (3, .int v3), (5, .int v5), (6, .int v6), (7, .int v7), (8, .int v8)] dX12_dies_183 (by decide) rfl ?_
      obtain ⟨x7, ex7⟩ : ∃ y : Int32, y = v5 + 1 := ⟨_, rfl⟩
      have h := h x7 ex7
      refine j_iinc E x7 [(5, .int x7), (4, .int x6), (0, .ref v0), (1, .int v1), (2, .int v2), (3, .int v3), (6, .int v6), (7, .int v7), (8, .int v8)] dX12_dies_185 5 rfl (by rw [ex7]; rfl) (by decide) rfl ?_
      refine j_goto E 73 dX12_dies_188 (by decide) ?_
      refine j_sub [2, 3, 4, 5, 1, 0] rfl ?_
      exact hK73 v0 v1 v2 v3 x6 x7 I L kv0 h
    · have h := h.2 c5
      refine j_iload_n E dX12_dies_122 2 rfl ?_
      refine j_iload E dX12_dies_123 8 rfl ?_
      refine j_callS E [.int v2, .int v8] [] (c_X12_has (gL G) (gD G) (gY G) v2 v8 Z I L _ hZ  h) (gwS W_840 W_841 W_695 W_839) rfl fy_X12_has ⟨by decide, by decide⟩ rfl rfl (Nat.le_of_ble_eq_true rfl) ⟨Nat.zero_le _, Nat.zero_le _⟩ dX12_dies_125 (fun v8 Z9 I10 L11 q12 => ?_)
      obtain ⟨rfl, r14, rfl, zr14, h⟩ := q12
      show jJ G 9 128 [(0, .ref v0), (1, .int v1), (2, .int v2), (3, .int v3), (4, .int v4), (5, .int v5), (6, .int v6), (7, .int v7), (8, .int v8)] [.int r14] Z I10 L11 0 0
      refine j_if_ne E 134 dX12_dies_128 (by decide) (fun c15 => ?_) (fun c15 => ?_)
      · have h := h.1 c15
        refine j_aload_n E dX12_dies_134 0 rfl ?_
        obtain ⟨b16, eb16, kb16, lb16⟩ := sh_f hZ kv0 (j := 5) (k := 14) (m := 192) rfl
        have h := h b16 eb16
        refine j_getr E 12 5 rfl rfl (by decide) (by decide) (iw iT_12) rfl rfl (tw W_699) kv0 eb16 dX12_dies_135 ?_
        refine j_bipush E (v := 8) dX12_dies_138 (by decide) ?_
        refine j_iload E dX12_dies_140 5 rfl ?_
        refine j_imul E dX12_dies_142 ?_
        refine j_iload E dX12_dies_143 8 rfl ?_
        refine j_iadd E dX12_dies_145 ?_
        refine j_dup2_11 E dX12_dies_146 rfl rfl ?_
        obtain ⟨o17, h⟩ := h
        refine j_iald E kb16 (by rw [lb16]; exact o17) dX12_dies_147 ?_
        refine j_iload E dX12_dies_148 6 rfl ?_
        refine j_iload_n E dX12_dies_150 3 rfl ?_
        obtain ⟨o18, h⟩ := h
        refine j_idiv E dX12_dies_151 o18 ?_
        refine j_iload E dX12_dies_152 7 rfl ?_
        refine j_iload E dX12_dies_154 6 rfl ?_
        refine j_iload_n E dX12_dies_156 3 rfl ?_
        obtain ⟨o19, h⟩ := h
        refine j_irem E dX12_dies_157 o19 ?_
        refine j_icmp_ge E 165 dX12_dies_158 (by decide) (fun c20 => ?_) (fun c20 => ?_)
        · have h := h.1 c20
          refine j_iconst E (v := 0) dX12_dies_165 (by decide) ?_
          refine j_sub [0, 1, 2, 3, 4, 5, 6, 7, 8] rfl ?_
          exact m_X12_dies_b166 E hZ K73 hK73 K115 hK115 v0 v1 v2 v3 v4 v5 v6 v7 v8 b16 (((8 : Int32) * v5) + v8) (I10 b16 (((8 : Int32) * v5) + v8).toNatClampNeg) (v6 / v3) (0 : Int32) I10 L11 kv0 kb16 h
        · have h := h.2 c20
          refine j_iconst E (v := 1) dX12_dies_161 (by decide) ?_
          refine j_goto E 166 dX12_dies_162 (by decide) ?_
          refine j_sub [0, 1, 2, 3, 4, 5, 6, 7, 8] rfl ?_
          exact m_X12_dies_b166 E hZ K73 hK73 K115 hK115 v0 v1 v2 v3 v4 v5 v6 v7 v8 b16 (((8 : Int32) * v5) + v8) (I10 b16 (((8 : Int32) * v5) + v8).toNatClampNeg) (v6 / v3) (1 : Int32) I10 L11 kv0 kb16 h
      · have h := h.2 c15
        refine j_goto E 172 dX12_dies_131 (by decide) ?_
        refine j_sub [0, 1, 2, 3, 4, 5, 6, 7, 8] rfl ?_
        exact m_X12_dies_b172 E hZ K73 hK73 K115 hK115 v0 v1 v2 v3 v4 v5 v6 v7 v8 I10 L11 kv0 h
set_option maxRecDepth 100000 in
def f_X12_dies_L73  (Z : jZ) (Q : Int32 → jI → jL → Prop) : Nat → Nat → Int32 → Int32 → Int32 → Int32 → Int32 → jI → jL → Prop
  | 0 => fun _ _ _ _ _ _ _ _ => False
  | n + 1 => fun v0 v1 v2 v3 v4 v5 I L => (((I v0 0) ≤ v5 → ((v4 ≤ 0 → Q v4 I L) ∧ (¬ (v4 ≤ 0) → (f_X12_rememberParts v0 Z I L (fun I25 L26 => Q v4 I25 L26))))) ∧ (¬ ((I v0 0) ≤ v5) → (∀ b29 : Nat, jr Z v0 5 = some b29 → (vp_in (((8 : Int32) * v5) + v1) 192 ∧ (∀ x31 : Int32, x31 = (I b29 (((8 : Int32) * v5) + v1).toNatClampNeg) → (∀ b32 : Nat, jr Z v0 5 = some b32 → (vp_in (((8 : Int32) * v5) + v1) 192 ∧ (∀ I34 : jI, I34 = jpI I b32 (((8 : Int32) * v5) + v1).toNatClampNeg (0 : Int32) → (∃ m115 : Nat, f_X12_dies_L115 (f_X12_dies_L73 Z Q n) Z Q m115 v0 v1 v2 v3 v4 v5 x31 (0 : Int32) (0 : Int32) I34 L)))))))))
set_option maxHeartbeats 4000000 in
set_option maxRecDepth 100000 in
theorem m_X12_dies_L73 {G : jG} {Z : jZ} {Q : Int32 → jI → jL → Prop} (E : jE G cX12_dies RX12 w_X12_dies 9 (some .int) { frames := 2, cells := 0, slots := 0, locals := 42 } (rtI Z Q)) (hZ : SH Z)  : ∀ (n : Nat) (v0 : Nat) (v1 : Int32) (v2 : Int32) (v3 : Int32) (v4 : Int32) (v5 : Int32) (I : jI) (L : jL), jk Z v0 12 → f_X12_dies_L73  Z Q n v0 v1 v2 v3 v4 v5 I L → jJ G 9 73 [(0, .ref v0), (1, .int v1), (2, .int v2), (3, .int v3), (4, .int v4), (5, .int v5)] [] Z I L 0 0 := by
  intro n
  induction n with
  | zero => intro v0 v1 v2 v3 v4 v5 I L _ h; exact h.elim
  | succ n ih =>
    intro v0 v1 v2 v3 v4 v5 I L kv0 h
    have h : (((I v0 0) ≤ v5 → ((v4 ≤ 0 → Q v4 I L) ∧ (¬ (v4 ≤ 0) → (f_X12_rememberParts v0 Z I L (fun I25 L26 => Q v4 I25 L26))))) ∧ (¬ ((I v0 0) ≤ v5) → (∀ b29 : Nat, jr Z v0 5 = some b29 → (vp_in (((8 : Int32) * v5) + v1) 192 ∧ (∀ x31 : Int32, x31 = (I b29 (((8 : Int32) * v5) + v1).toNatClampNeg) → (∀ b32 : Nat, jr Z v0 5 = some b32 → (vp_in (((8 : Int32) * v5) + v1) 192 ∧ (∀ I34 : jI, I34 = jpI I b32 (((8 : Int32) * v5) + v1).toNatClampNeg (0 : Int32) → (∃ m115 : Nat, f_X12_dies_L115 (f_X12_dies_L73 Z Q n) Z Q m115 v0 v1 v2 v3 v4 v5 x31 (0 : Int32) (0 : Int32) I34 L))))))))) := h
    obtain ⟨K73, eK73⟩ : ∃ K : Nat → Int32 → Int32 → Int32 → Int32 → Int32 → jI → jL → Prop, K = f_X12_dies_L73  Z Q n := ⟨_, rfl⟩
    have hK73 := ih
    clear eK73 K73
    generalize f_X12_dies_L73  Z Q n = K73 at hK73 h
    refine j_iload E dX12_dies_73 5 rfl ?_
    refine j_aload_n E dX12_dies_75 0 rfl ?_
    refine j_geti E 12 0 rfl rfl (by decide) (by decide) (iw iT_12) rfl rfl (tw W_693) kv0 dX12_dies_76 ?_
    refine j_icmp_ge E 191 dX12_dies_79 (by decide) (fun c21 => ?_) (fun c21 => ?_)
    · have h := h.1 c21
      refine j_iload E dX12_dies_191 4 rfl ?_
      refine j_if_le E 200 dX12_dies_193 (by decide) (fun c22 => ?_) (fun c22 => ?_)
      · have h := h.1 c22
        refine j_iload E dX12_dies_200 4 rfl ?_
        exact j_ireturn E ⟨rfl, _, rfl, h⟩ (Nat.zero_le _) (Nat.zero_le _) dX12_dies_202
      · have h := h.2 c22
        refine j_aload_n E dX12_dies_196 0 rfl ?_
        refine j_callV E [] [] (c_X12_rememberParts (gL G) (gD G) (gY G) v0 Z I L _ hZ kv0 h) (gwV W_912 W_913 W_914 W_695 W_911) rfl ⟨rfl, fy_X12_rememberParts⟩ ⟨by decide, by decide⟩ (c := 12) rfl (by decide) kv0 rfl rfl (Nat.le_of_ble_eq_true rfl) ⟨Nat.zero_le _, Nat.zero_le _⟩ dX12_dies_197 (fun v23 Z24 I25 L26 q27 => ?_)
        obtain ⟨rfl, rfl, h⟩ := q27
        show jJ G 9 200 [(0, .ref v0), (1, .int v1), (2, .int v2), (3, .int v3), (4, .int v4), (5, .int v5)] [] Z I25 L26 0 0
        refine j_iload E dX12_dies_200 4 rfl ?_
        exact j_ireturn E ⟨rfl, _, rfl, h⟩ (Nat.zero_le _) (Nat.zero_le _) dX12_dies_202
    · have h := h.2 c21
      refine j_aload_n E dX12_dies_82 0 rfl ?_
      obtain ⟨b29, eb29, kb29, lb29⟩ := sh_f hZ kv0 (j := 5) (k := 14) (m := 192) rfl
      have h := h b29 eb29
      refine j_getr E 12 5 rfl rfl (by decide) (by decide) (iw iT_12) rfl rfl (tw W_699) kv0 eb29 dX12_dies_83 ?_
      refine j_bipush E (v := 8) dX12_dies_86 (by decide) ?_
      refine j_iload E dX12_dies_88 5 rfl ?_
      refine j_imul E dX12_dies_90 ?_
      refine j_iload_n E dX12_dies_91 1 rfl ?_
      refine j_iadd E dX12_dies_92 ?_
      obtain ⟨o30, h⟩ := h
      refine j_iald E kb29 (by rw [lb29]; exact o30) dX12_dies_93 ?_
      refine j_topi (fun x31 ex31 => ?_)
      have h := h x31 ex31
      refine j_istore E 6 [(6, .int x31), (0, .ref v0), (1, .int v1), (2, .int v2), (3, .int v3), (4, .int v4), (5, .int v5)] dX12_dies_94 (by decide) rfl ?_
      refine j_aload_n E dX12_dies_96 1 rfl ?_
      obtain ⟨b32, eb32, kb32, lb32⟩ := sh_f hZ kv0 (j := 5) (k := 14) (m := 192) rfl
      have h := h b32 eb32
      refine j_getr E 12 5 rfl rfl (by decide) (by decide) (iw iT_12) rfl rfl (tw W_699) kv0 eb32 dX12_dies_97 ?_
      refine j_bipush E (v := 8) dX12_dies_100 (by decide) ?_
      refine j_iload E dX12_dies_102 6 rfl ?_
      refine j_imul E dX12_dies_104 ?_
      refine j_iload_n E dX12_dies_105 2 rfl ?_
      refine j_iadd E dX12_dies_106 ?_
      refine j_iconst E (v := 0) dX12_dies_107 (by decide) ?_
      obtain ⟨o33, h⟩ := h
      refine j_iast E kb32 (by rw [lb32]; exact o33) dX12_dies_108 ?_
      refine j_nmI (fun I34 eI34 => ?_)
      have h := h I34 eI34
      refine j_iconst E (v := 0) dX12_dies_109 (by decide) ?_
      refine j_istore E 7 [(7, .int (0 : Int32)), (6, .int x31), (0, .ref v0), (1, .int v1), (2, .int v2), (3, .int v3), (4, .int v4), (5, .int v5)] dX12_dies_110 (by decide) rfl ?_
      refine j_iconst E (v := 0) dX12_dies_112 (by decide) ?_
      refine j_istore E 8 [(8, .int (0 : Int32)), (7, .int (0 : Int32)), (6, .int x31), (0, .ref v0), (1, .int v1), (2, .int v2), (3, .int v3), (4, .int v4), (5, .int v5)] dX12_dies_113 (by decide) rfl ?_
      obtain ⟨n35, h⟩ := h
      refine j_sub [3, 4, 5, 6, 7, 8, 2, 1, 0] rfl ?_
      exact m_X12_dies_L115 E hZ K73 hK73 n35 v0 v1 v2 v3 v4 v5 x31 (0 : Int32) (0 : Int32) I34 L kv0 h
set_option maxRecDepth 100000 in
def f_X12_dies_L35  (Z : jZ) (Q : Int32 → jI → jL → Prop) : Nat → Nat → Int32 → Int32 → Int32 → jI → jL → Prop
  | 0 => fun _ _ _ _ _ _ => False
  | n + 1 => fun v0 v1 v2 v3 I L => (∀ b36 : Nat, jr Z v0 54 = some b36 → (((192 : Int32) ≤ v3 → (f_J6_bitCount_0f7a4 v2 Z I L (fun r44 I40 L41 => (∃ m73 : Nat, f_X12_dies_L73  Z Q m73 v0 v1 v2 r44 (0 : Int32) (0 : Int32) I40 L41)))) ∧ (¬ ((192 : Int32) ≤ v3) → (∀ b46 : Nat, jr Z v0 54 = some b46 → (∀ b47 : Nat, jr Z v0 5 = some b47 → (vp_in v3 192 ∧ (vp_in v3 192 ∧ (∀ I50 : jI, I50 = jpI I b46 v3.toNatClampNeg (I b47 v3.toNatClampNeg) → (∀ x51 : Int32, x51 = v3 + 1 → (f_X12_dies_L35 Z Q n) v0 v1 v2 x51 I50 L)))))))))
set_option maxHeartbeats 4000000 in
set_option maxRecDepth 100000 in
theorem m_X12_dies_L35 {G : jG} {Z : jZ} {Q : Int32 → jI → jL → Prop} (E : jE G cX12_dies RX12 w_X12_dies 9 (some .int) { frames := 2, cells := 0, slots := 0, locals := 42 } (rtI Z Q)) (hZ : SH Z)  : ∀ (n : Nat) (v0 : Nat) (v1 : Int32) (v2 : Int32) (v3 : Int32) (I : jI) (L : jL), jk Z v0 12 → f_X12_dies_L35  Z Q n v0 v1 v2 v3 I L → jJ G 9 35 [(0, .ref v0), (1, .int v1), (2, .int v2), (3, .int v3)] [] Z I L 0 0 := by
  intro n
  induction n with
  | zero => intro v0 v1 v2 v3 I L _ h; exact h.elim
  | succ n ih =>
    intro v0 v1 v2 v3 I L kv0 h
    have h : (∀ b36 : Nat, jr Z v0 54 = some b36 → (((192 : Int32) ≤ v3 → (f_J6_bitCount_0f7a4 v2 Z I L (fun r44 I40 L41 => (∃ m73 : Nat, f_X12_dies_L73  Z Q m73 v0 v1 v2 r44 (0 : Int32) (0 : Int32) I40 L41)))) ∧ (¬ ((192 : Int32) ≤ v3) → (∀ b46 : Nat, jr Z v0 54 = some b46 → (∀ b47 : Nat, jr Z v0 5 = some b47 → (vp_in v3 192 ∧ (vp_in v3 192 ∧ (∀ I50 : jI, I50 = jpI I b46 v3.toNatClampNeg (I b47 v3.toNatClampNeg) → (∀ x51 : Int32, x51 = v3 + 1 → (f_X12_dies_L35 Z Q n) v0 v1 v2 x51 I50 L))))))))) := h
    obtain ⟨K35, eK35⟩ : ∃ K : Nat → Int32 → Int32 → Int32 → jI → jL → Prop, K = f_X12_dies_L35  Z Q n := ⟨_, rfl⟩
    have hK35 := ih
    clear eK35 K35
    generalize f_X12_dies_L35  Z Q n = K35 at hK35 h
    refine j_iload_n E dX12_dies_35 3 rfl ?_
    refine j_aload_n E dX12_dies_36 0 rfl ?_
    obtain ⟨b36, eb36, kb36, lb36⟩ := sh_f hZ kv0 (j := 54) (k := 14) (m := 192) rfl
    have h := h b36 eb36
    refine j_getr E 12 54 rfl rfl (by decide) (by decide) (iw iT_12) rfl rfl (tw W_910) kv0 eb36 dX12_dies_37 ?_
    refine j_alen14 E (v := 192) kb36 (by rw [lb36]; rfl) dX12_dies_40 ?_
    refine j_icmp_ge E 62 dX12_dies_41 (by decide) (fun c37 => ?_) (fun c37 => ?_)
    · have h := h.1 c37
      refine j_iload_n E dX12_dies_62 2 rfl ?_
      refine j_callS E [.int v2] [] (c_J6_bitCount_0f7a4 (gL G) (gD G) (gY G) v2 Z I L _ hZ  h) (gwS W_915 W_242 W_240 W_239) rfl fy_J6_bitCount_0f7a4 ⟨by decide, by decide⟩ rfl rfl (Nat.le_of_ble_eq_true rfl) ⟨Nat.zero_le _, Nat.zero_le _⟩ dX12_dies_63 (fun v38 Z39 I40 L41 q42 => ?_)
      obtain ⟨rfl, r44, rfl, h⟩ := q42
      show jJ G 9 66 [(0, .ref v0), (1, .int v1), (2, .int v2), (3, .int v3)] [.int r44] Z I40 L41 0 0
      refine j_istore_n E 3 [(3, .int r44), (0, .ref v0), (1, .int v1), (2, .int v2)] dX12_dies_66 rfl (by decide) rfl ?_
      refine j_iconst E (v := 0) dX12_dies_67 (by decide) ?_
      refine j_istore E 4 [(4, .int (0 : Int32)), (3, .int r44), (0, .ref v0), (1, .int v1), (2, .int v2)] dX12_dies_68 (by decide) rfl ?_
      refine j_iconst E (v := 0) dX12_dies_70 (by decide) ?_
      refine j_istore E 5 [(5, .int (0 : Int32)), (4, .int (0 : Int32)), (3, .int r44), (0, .ref v0), (1, .int v1), (2, .int v2)] dX12_dies_71 (by decide) rfl ?_
      obtain ⟨n45, h⟩ := h
      refine j_sub [3, 4, 5, 2, 1, 0] rfl ?_
      exact m_X12_dies_L73 E hZ  n45 v0 v1 v2 r44 (0 : Int32) (0 : Int32) I40 L41 kv0 h
    · have h := h.2 c37
      refine j_aload_n E dX12_dies_44 0 rfl ?_
      obtain ⟨b46, eb46, kb46, lb46⟩ := sh_f hZ kv0 (j := 54) (k := 14) (m := 192) rfl
      have h := h b46 eb46
      refine j_getr E 12 54 rfl rfl (by decide) (by decide) (iw iT_12) rfl rfl (tw W_910) kv0 eb46 dX12_dies_45 ?_
      refine j_iload_n E dX12_dies_48 3 rfl ?_
      refine j_aload_n E dX12_dies_49 0 rfl ?_
      obtain ⟨b47, eb47, kb47, lb47⟩ := sh_f hZ kv0 (j := 5) (k := 14) (m := 192) rfl
      have h := h b47 eb47
      refine j_getr E 12 5 rfl rfl (by decide) (by decide) (iw iT_12) rfl rfl (tw W_699) kv0 eb47 dX12_dies_50 ?_
      refine j_iload_n E dX12_dies_53 3 rfl ?_
      obtain ⟨o48, h⟩ := h
      refine j_iald E kb47 (by rw [lb47]; exact o48) dX12_dies_54 ?_
      obtain ⟨o49, h⟩ := h
      refine j_iast E kb46 (by rw [lb46]; exact o49) dX12_dies_55 ?_
      refine j_nmI (fun I50 eI50 => ?_)
      have h := h I50 eI50
      obtain ⟨x51, ex51⟩ : ∃ y : Int32, y = v3 + 1 := ⟨_, rfl⟩
      have h := h x51 ex51
      refine j_iinc E x51 [(3, .int x51), (0, .ref v0), (1, .int v1), (2, .int v2)] dX12_dies_56 3 rfl (by rw [ex51]; rfl) (by decide) rfl ?_
      refine j_goto E 35 dX12_dies_59 (by decide) ?_
      refine j_sub [1, 2, 3, 0] rfl ?_
      exact hK35 v0 v1 v2 x51 I50 L kv0 h
set_option maxRecDepth 100000 in
def f_X12_dies (v0 : Nat) (v1 : Int32) (v2 : Int32) (Z : jZ) (I : jI) (L : jL) (Q : Int32 → jI → jL → Prop) : Prop := (∀ I52 : jI, I52 = jpI I v0 22 (0 : Int32) → (f_X12_isFamily v1 Z I52 L (fun r59 I55 L56 => ((r59 = 0 → Q (-1 : Int32) I55 L56) ∧ (¬ (r59 = 0) → (f_X12_in v2 (1 : Int32) (255 : Int32) Z I55 L56 (fun r67 I63 L64 => ((r67 = 0 → Q (-1 : Int32) I63 L64) ∧ (¬ (r67 = 0) → (f_X12_has v2 v1 Z I63 L64 (fun r75 I71 L72 => ((r75 = 0 → (∃ m35 : Nat, f_X12_dies_L35  Z Q m35 v0 v1 v2 (0 : Int32) I71 L72)) ∧ (¬ (r75 = 0) → Q (-1 : Int32) I71 L72)))))))))))))
set_option maxHeartbeats 4000000 in
set_option maxRecDepth 100000 in
theorem c_X12_dies (l : Launch) (D : va_G) (cy : jC) (v0 : Nat) (v1 : Int32) (v2 : Int32) (Z : jZ) (I : jI) (L : jL) (Q : Int32 → jI → jL → Prop) (hZ : SH Z) (kv0 : jk Z v0 12) (h : f_X12_dies v0 v1 v2 Z I L Q) : jCt l yX12_dies w_X12_dies { frames := 2, cells := 0, slots := 0, locals := 42 } D cy [.ref v0, .int v1, .int v2] Z I L (rtI Z Q) := by
  refine jCt_of (cc := cX12_dies) (maxL := 9) (ret := (some .int)) (by decide +kernel) rfl (Nat.le_of_ble_eq_true rfl) ?_
  intro G eD eY eL E
  subst eD; subst eY; subst eL
  have E : jE G cX12_dies RX12 w_X12_dies 9 (some .int) { frames := 2, cells := 0, slots := 0, locals := 42 } (rtI Z Q) := E
  show jJ G 9 0 [(0, .ref v0), (1, .int v1), (2, .int v2)] [] Z I L 0 0
  refine j_aload_n E dX12_dies_0 0 rfl ?_
  refine j_iconst E (v := 0) dX12_dies_1 (by decide) ?_
  refine j_puti E 12 22 rfl rfl (by decide) (by decide) (iw iT_12) tyX12_ok nmX12 rfl rfl (tw W_690) rfl rfl rfl kv0 dX12_dies_2 ?_
  refine j_nmI (fun I52 eI52 => ?_)
  have h := h I52 eI52
  refine j_iload_n E dX12_dies_5 1 rfl ?_
  refine j_callS E [.int v1] [] (c_X12_isFamily (gL G) (gD G) (gY G) v1 Z I52 L _ hZ  h) (gwS W_794 W_795 W_695 W_793) rfl fy_X12_isFamily ⟨by decide, by decide⟩ rfl rfl (Nat.le_of_ble_eq_true rfl) ⟨Nat.zero_le _, Nat.zero_le _⟩ dX12_dies_6 (fun v53 Z54 I55 L56 q57 => ?_)
  obtain ⟨rfl, r59, rfl, zr59, h⟩ := q57
  show jJ G 9 9 [(0, .ref v0), (1, .int v1), (2, .int v2)] [.int r59] Z I55 L56 0 0
  refine j_if_eq E 31 dX12_dies_9 (by decide) (fun c60 => ?_) (fun c60 => ?_)
  · have h := h.1 c60
    refine j_iconst E (v := -1) dX12_dies_31 (by decide) ?_
    exact j_ireturn E ⟨rfl, _, rfl, h⟩ (Nat.zero_le _) (Nat.zero_le _) dX12_dies_32
  · have h := h.2 c60
    refine j_iload_n E dX12_dies_12 2 rfl ?_
    refine j_iconst E (v := 1) dX12_dies_13 (by decide) ?_
    refine j_sipush E (v := 255) dX12_dies_14 (by decide) ?_
    refine j_callS E [.int v2, .int (1 : Int32), .int (255 : Int32)] [] (c_X12_in (gL G) (gD G) (gY G) v2 (1 : Int32) (255 : Int32) Z I55 L56 _ hZ  h) (gwS W_696 W_697 W_695 W_694) rfl fy_X12_in ⟨by decide, by decide⟩ rfl rfl (Nat.le_of_ble_eq_true rfl) ⟨Nat.zero_le _, Nat.zero_le _⟩ dX12_dies_17 (fun v61 Z62 I63 L64 q65 => ?_)
    obtain ⟨rfl, r67, rfl, zr67, h⟩ := q65
    show jJ G 9 20 [(0, .ref v0), (1, .int v1), (2, .int v2)] [.int r67] Z I63 L64 0 0
    refine j_if_eq E 31 dX12_dies_20 (by decide) (fun c68 => ?_) (fun c68 => ?_)
    · have h := h.1 c68
      refine j_iconst E (v := -1) dX12_dies_31 (by decide) ?_
      exact j_ireturn E ⟨rfl, _, rfl, h⟩ (Nat.zero_le _) (Nat.zero_le _) dX12_dies_32
    · have h := h.2 c68
      refine j_iload_n E dX12_dies_23 2 rfl ?_
      refine j_iload_n E dX12_dies_24 1 rfl ?_
      refine j_callS E [.int v2, .int v1] [] (c_X12_has (gL G) (gD G) (gY G) v2 v1 Z I63 L64 _ hZ  h) (gwS W_840 W_841 W_695 W_839) rfl fy_X12_has ⟨by decide, by decide⟩ rfl rfl (Nat.le_of_ble_eq_true rfl) ⟨Nat.zero_le _, Nat.zero_le _⟩ dX12_dies_25 (fun v69 Z70 I71 L72 q73 => ?_)
      obtain ⟨rfl, r75, rfl, zr75, h⟩ := q73
      show jJ G 9 28 [(0, .ref v0), (1, .int v1), (2, .int v2)] [.int r75] Z I71 L72 0 0
      refine j_if_eq E 33 dX12_dies_28 (by decide) (fun c76 => ?_) (fun c76 => ?_)
      · have h := h.1 c76
        refine j_iconst E (v := 0) dX12_dies_33 (by decide) ?_
        refine j_istore_n E 3 [(3, .int (0 : Int32)), (0, .ref v0), (1, .int v1), (2, .int v2)] dX12_dies_34 rfl (by decide) rfl ?_
        obtain ⟨n77, h⟩ := h
        refine j_sub [1, 2, 3, 0] rfl ?_
        exact m_X12_dies_L35 E hZ  n77 v0 v1 v2 (0 : Int32) I71 L72 kv0 h
      · have h := h.2 c76
        refine j_iconst E (v := -1) dX12_dies_31 (by decide) ?_
        exact j_ireturn E ⟨rfl, _, rfl, h⟩ (Nat.zero_le _) (Nat.zero_le _) dX12_dies_32
set_option maxRecDepth 100000 in
def f_X12_undo_L26  (Z : jZ) (Q : Int32 → jI → jL → Prop) : Nat → Nat → Int32 → jI → jL → Prop
  | 0 => fun _ _ _ _ => False
  | n + 1 => fun v0 v1 I L => (((192 : Int32) ≤ v1 → Q (I v0 52) I L) ∧ (¬ ((192 : Int32) ≤ v1) → (∀ b2 : Nat, jr Z v0 5 = some b2 → (∀ b3 : Nat, jr Z v0 53 = some b3 → (vp_in (((192 : Int32) * (I v0 52)) + v1) 1536 ∧ (vp_in v1 192 ∧ (∀ I6 : jI, I6 = jpI I b2 v1.toNatClampNeg (I b3 (((192 : Int32) * (I v0 52)) + v1).toNatClampNeg) → (∀ x7 : Int32, x7 = v1 + 1 → (f_X12_undo_L26 Z Q n) v0 x7 I6 L))))))))
set_option maxHeartbeats 4000000 in
set_option maxRecDepth 100000 in
theorem m_X12_undo_L26 {G : jG} {Z : jZ} {Q : Int32 → jI → jL → Prop} (E : jE G cX12_undo RX12 w_X12_undo 2 (some .int) { frames := 0, cells := 0, slots := 0, locals := 0 } (rtI Z Q)) (hZ : SH Z)  : ∀ (n : Nat) (v0 : Nat) (v1 : Int32) (I : jI) (L : jL), jk Z v0 12 → f_X12_undo_L26  Z Q n v0 v1 I L → jJ G 2 26 [(0, .ref v0), (1, .int v1)] [] Z I L 0 0 := by
  intro n
  induction n with
  | zero => intro v0 v1 I L _ h; exact h.elim
  | succ n ih =>
    intro v0 v1 I L kv0 h
    have h : (((192 : Int32) ≤ v1 → Q (I v0 52) I L) ∧ (¬ ((192 : Int32) ≤ v1) → (∀ b2 : Nat, jr Z v0 5 = some b2 → (∀ b3 : Nat, jr Z v0 53 = some b3 → (vp_in (((192 : Int32) * (I v0 52)) + v1) 1536 ∧ (vp_in v1 192 ∧ (∀ I6 : jI, I6 = jpI I b2 v1.toNatClampNeg (I b3 (((192 : Int32) * (I v0 52)) + v1).toNatClampNeg) → (∀ x7 : Int32, x7 = v1 + 1 → (f_X12_undo_L26 Z Q n) v0 x7 I6 L)))))))) := h
    obtain ⟨K26, eK26⟩ : ∃ K : Nat → Int32 → jI → jL → Prop, K = f_X12_undo_L26  Z Q n := ⟨_, rfl⟩
    have hK26 := ih
    clear eK26 K26
    generalize f_X12_undo_L26  Z Q n = K26 at hK26 h
    refine j_iload_n E dX12_undo_26 1 rfl ?_
    refine j_sipush E (v := 192) dX12_undo_27 (by decide) ?_
    refine j_icmp_ge E 60 dX12_undo_30 (by decide) (fun c1 => ?_) (fun c1 => ?_)
    · have h := h.1 c1
      refine j_aload_n E dX12_undo_60 0 rfl ?_
      refine j_geti E 12 52 rfl rfl (by decide) (by decide) (iw iT_12) rfl rfl (tw W_740) kv0 dX12_undo_61 ?_
      exact j_ireturn E ⟨rfl, _, rfl, h⟩ (Nat.zero_le _) (Nat.zero_le _) dX12_undo_64
    · have h := h.2 c1
      refine j_aload_n E dX12_undo_33 0 rfl ?_
      obtain ⟨b2, eb2, kb2, lb2⟩ := sh_f hZ kv0 (j := 5) (k := 14) (m := 192) rfl
      have h := h b2 eb2
      refine j_getr E 12 5 rfl rfl (by decide) (by decide) (iw iT_12) rfl rfl (tw W_699) kv0 eb2 dX12_undo_34 ?_
      refine j_iload_n E dX12_undo_37 1 rfl ?_
      refine j_aload_n E dX12_undo_38 0 rfl ?_
      obtain ⟨b3, eb3, kb3, lb3⟩ := sh_f hZ kv0 (j := 53) (k := 14) (m := 1536) rfl
      have h := h b3 eb3
      refine j_getr E 12 53 rfl rfl (by decide) (by decide) (iw iT_12) rfl rfl (tw W_909) kv0 eb3 dX12_undo_39 ?_
      refine j_sipush E (v := 192) dX12_undo_42 (by decide) ?_
      refine j_aload_n E dX12_undo_45 0 rfl ?_
      refine j_geti E 12 52 rfl rfl (by decide) (by decide) (iw iT_12) rfl rfl (tw W_740) kv0 dX12_undo_46 ?_
      refine j_imul E dX12_undo_49 ?_
      refine j_iload_n E dX12_undo_50 1 rfl ?_
      refine j_iadd E dX12_undo_51 ?_
      obtain ⟨o4, h⟩ := h
      refine j_iald E kb3 (by rw [lb3]; exact o4) dX12_undo_52 ?_
      obtain ⟨o5, h⟩ := h
      refine j_iast E kb2 (by rw [lb2]; exact o5) dX12_undo_53 ?_
      refine j_nmI (fun I6 eI6 => ?_)
      have h := h I6 eI6
      obtain ⟨x7, ex7⟩ : ∃ y : Int32, y = v1 + 1 := ⟨_, rfl⟩
      have h := h x7 ex7
      refine j_iinc E x7 [(1, .int x7), (0, .ref v0)] dX12_undo_54 1 rfl (by rw [ex7]; rfl) (by decide) rfl ?_
      refine j_goto E 26 dX12_undo_57 (by decide) ?_
      refine j_sub [1, 0] rfl ?_
      exact hK26 v0 x7 I6 L kv0 h
set_option maxRecDepth 100000 in
def f_X12_undo (v0 : Nat) (Z : jZ) (I : jI) (L : jL) (Q : Int32 → jI → jL → Prop) : Prop := (∀ I8 : jI, I8 = jpI I v0 22 (0 : Int32) → ((¬ (I8 v0 52) = 0 → (∀ I10 : jI, I10 = jpI I8 v0 52 ((I8 v0 52) - (1 : Int32)) → (∃ m26 : Nat, f_X12_undo_L26  Z Q m26 v0 (0 : Int32) I10 L))) ∧ ((I8 v0 52) = 0 → Q (-1 : Int32) I8 L)))
set_option maxHeartbeats 4000000 in
set_option maxRecDepth 100000 in
theorem c_X12_undo (l : Launch) (D : va_G) (cy : jC) (v0 : Nat) (Z : jZ) (I : jI) (L : jL) (Q : Int32 → jI → jL → Prop) (hZ : SH Z) (kv0 : jk Z v0 12) (h : f_X12_undo v0 Z I L Q) : jCt l yX12_undo w_X12_undo { frames := 0, cells := 0, slots := 0, locals := 0 } D cy [.ref v0] Z I L (rtI Z Q) := by
  refine jCt_of (cc := cX12_undo) (maxL := 2) (ret := (some .int)) (by decide +kernel) rfl (Nat.le_of_ble_eq_true rfl) ?_
  intro G eD eY eL E
  subst eD; subst eY; subst eL
  have E : jE G cX12_undo RX12 w_X12_undo 2 (some .int) { frames := 0, cells := 0, slots := 0, locals := 0 } (rtI Z Q) := E
  show jJ G 2 0 [(0, .ref v0)] [] Z I L 0 0
  refine j_aload_n E dX12_undo_0 0 rfl ?_
  refine j_iconst E (v := 0) dX12_undo_1 (by decide) ?_
  refine j_puti E 12 22 rfl rfl (by decide) (by decide) (iw iT_12) tyX12_ok nmX12 rfl rfl (tw W_690) rfl rfl rfl kv0 dX12_undo_2 ?_
  refine j_nmI (fun I8 eI8 => ?_)
  have h := h I8 eI8
  refine j_aload_n E dX12_undo_5 0 rfl ?_
  refine j_geti E 12 52 rfl rfl (by decide) (by decide) (iw iT_12) rfl rfl (tw W_740) kv0 dX12_undo_6 ?_
  refine j_if_ne E 14 dX12_undo_9 (by decide) (fun c9 => ?_) (fun c9 => ?_)
  · have h := h.1 c9
    refine j_aload_n E dX12_undo_14 0 rfl ?_
    refine j_dup E dX12_undo_15 rfl ?_
    refine j_geti E 12 52 rfl rfl (by decide) (by decide) (iw iT_12) rfl rfl (tw W_740) kv0 dX12_undo_16 ?_
    refine j_iconst E (v := 1) dX12_undo_19 (by decide) ?_
    refine j_isub E dX12_undo_20 ?_
    refine j_puti E 12 52 rfl rfl (by decide) (by decide) (iw iT_12) tyX12_ok nmX12 rfl rfl (tw W_740) rfl rfl rfl kv0 dX12_undo_21 ?_
    refine j_nmI (fun I10 eI10 => ?_)
    have h := h I10 eI10
    refine j_iconst E (v := 0) dX12_undo_24 (by decide) ?_
    refine j_istore_n E 1 [(1, .int (0 : Int32)), (0, .ref v0)] dX12_undo_25 rfl (by decide) rfl ?_
    obtain ⟨n11, h⟩ := h
    refine j_sub [1, 0] rfl ?_
    exact m_X12_undo_L26 E hZ  n11 v0 (0 : Int32) I10 L kv0 h
  · have h := h.2 c9
    refine j_iconst E (v := -1) dX12_undo_12 (by decide) ?_
    exact j_ireturn E ⟨rfl, _, rfl, h⟩ (Nat.zero_le _) (Nat.zero_le _) dX12_undo_13
set_option maxRecDepth 100000 in
def f_X12_rail_b72 (K40 : Nat → Int32 → Int32 → jI → jL → Prop) (Z : jZ) (Q : Int32 → jI → jL → Prop) (v0 : Nat) (v3 : Int32) (s0 : Int32) (s1 : Int32) (I : jI) (L : jL) : Prop := (∀ x1 : Int32, x1 = (s0 + s1) → (∀ x2 : Int32, x2 = v3 + 1 → K40 v0 x1 x2 I L))
set_option maxHeartbeats 4000000 in
set_option maxRecDepth 100000 in
theorem m_X12_rail_b72 {G : jG} {Z : jZ} {Q : Int32 → jI → jL → Prop} (E : jE G cX12_rail RX12 w_X12_rail 4 (some .int) { frames := 1, cells := 0, slots := 0, locals := 29 } (rtI Z Q)) (hZ : SH Z) (K40 : Nat → Int32 → Int32 → jI → jL → Prop) (hK40 : ∀ (v0 : Nat) (v2 : Int32) (v3 : Int32) (I : jI) (L : jL), jk Z v0 12 → K40 v0 v2 v3 I L → jJ G 4 40 [(0, .ref v0), (2, .int v2), (3, .int v3)] [] Z I L 0 0) (v0 : Nat) (v3 : Int32) (s0 : Int32) (s1 : Int32) (I : jI) (L : jL) (kv0 : jk Z v0 12) (h : f_X12_rail_b72 K40 Z Q v0 v3 s0 s1 I L) : jJ G 4 72 [(0, .ref v0), (3, .int v3)] [.int s1, .int s0] Z I L 0 0 := by
  refine j_iadd E dX12_rail_72 ?_
  refine j_topi (fun x1 ex1 => ?_)
  have h := h x1 ex1
  refine j_istore_n E 2 [(2, .int x1), (0, .ref v0), (3, .int v3)] dX12_rail_73 rfl (by decide) rfl ?_
  obtain ⟨x2, ex2⟩ : ∃ y : Int32, y = v3 + 1 := ⟨_, rfl⟩
  have h := h x2 ex2
  refine j_iinc E x2 [(3, .int x2), (2, .int x1), (0, .ref v0)] dX12_rail_74 2 rfl (by rw [ex2]; rfl) (by decide) rfl ?_
  refine j_goto E 40 dX12_rail_77 (by decide) ?_
  refine j_sub [2, 1, 0] rfl ?_
  exact hK40 v0 x1 x2 I L kv0 h
set_option maxRecDepth 100000 in
def f_X12_rail_L40  (Z : jZ) (Q : Int32 → jI → jL → Prop) : Nat → Nat → Int32 → Int32 → jI → jL → Prop
  | 0 => fun _ _ _ _ _ => False
  | n + 1 => fun v0 v2 v3 I L => (((8 : Int32) ≤ v3 → Q v2 I L) ∧ (¬ ((8 : Int32) ≤ v3) → (∀ b4 : Nat, jr Z v0 35 = some b4 → (vp_in v3 8 ∧ (f_X12_tell v0 ((I b4 v3.toNatClampNeg).toInt64) Z I L (fun I8 L9 => (∀ b12 : Nat, jr Z v0 35 = some b12 → (vp_in v3 8 ∧ (((I8 b12 v3.toNatClampNeg) ≤ 0 → f_X12_rail_b72 (f_X12_rail_L40 Z Q n) Z Q v0 v3 v2 (0 : Int32) I8 L9) ∧ (¬ ((I8 b12 v3.toNatClampNeg) ≤ 0) → f_X12_rail_b72 (f_X12_rail_L40 Z Q n) Z Q v0 v3 v2 (1 : Int32) I8 L9))))))))))
set_option maxHeartbeats 4000000 in
set_option maxRecDepth 100000 in
theorem m_X12_rail_L40 {G : jG} {Z : jZ} {Q : Int32 → jI → jL → Prop} (E : jE G cX12_rail RX12 w_X12_rail 4 (some .int) { frames := 1, cells := 0, slots := 0, locals := 29 } (rtI Z Q)) (hZ : SH Z)  : ∀ (n : Nat) (v0 : Nat) (v2 : Int32) (v3 : Int32) (I : jI) (L : jL), jk Z v0 12 → f_X12_rail_L40  Z Q n v0 v2 v3 I L → jJ G 4 40 [(0, .ref v0), (2, .int v2), (3, .int v3)] [] Z I L 0 0 := by
  intro n
  induction n with
  | zero => intro v0 v2 v3 I L _ h; exact h.elim
  | succ n ih =>
    intro v0 v2 v3 I L kv0 h
    have h : (((8 : Int32) ≤ v3 → Q v2 I L) ∧ (¬ ((8 : Int32) ≤ v3) → (∀ b4 : Nat, jr Z v0 35 = some b4 → (vp_in v3 8 ∧ (f_X12_tell v0 ((I b4 v3.toNatClampNeg).toInt64) Z I L (fun I8 L9 => (∀ b12 : Nat, jr Z v0 35 = some b12 → (vp_in v3 8 ∧ (((I8 b12 v3.toNatClampNeg) ≤ 0 → f_X12_rail_b72 (f_X12_rail_L40 Z Q n) Z Q v0 v3 v2 (0 : Int32) I8 L9) ∧ (¬ ((I8 b12 v3.toNatClampNeg) ≤ 0) → f_X12_rail_b72 (f_X12_rail_L40 Z Q n) Z Q v0 v3 v2 (1 : Int32) I8 L9)))))))))) := h
    obtain ⟨K40, eK40⟩ : ∃ K : Nat → Int32 → Int32 → jI → jL → Prop, K = f_X12_rail_L40  Z Q n := ⟨_, rfl⟩
    have hK40 := ih
    clear eK40 K40
    generalize f_X12_rail_L40  Z Q n = K40 at hK40 h
    refine j_iload_n E dX12_rail_40 2 rfl ?_
    refine j_bipush E (v := 8) dX12_rail_41 (by decide) ?_
    refine j_icmp_ge E 80 dX12_rail_43 (by decide) (fun c3 => ?_) (fun c3 => ?_)
    · have h := h.1 c3
      refine j_iload_n E dX12_rail_80 1 rfl ?_
      exact j_ireturn E ⟨rfl, _, rfl, h⟩ (Nat.zero_le _) (Nat.zero_le _) dX12_rail_81
    · have h := h.2 c3
      refine j_aload_n E dX12_rail_46 0 rfl ?_
      refine j_aload_n E dX12_rail_47 0 rfl ?_
      obtain ⟨b4, eb4, kb4, lb4⟩ := sh_f hZ kv0 (j := 35) (k := 14) (m := 8) rfl
      have h := h b4 eb4
      refine j_getr E 12 35 rfl rfl (by decide) (by decide) (iw iT_12) rfl rfl (tw W_827) kv0 eb4 dX12_rail_48 ?_
      refine j_iload_n E dX12_rail_51 2 rfl ?_
      obtain ⟨o5, h⟩ := h
      refine j_iald E kb4 (by rw [lb4]; exact o5) dX12_rail_52 ?_
      refine j_i2l E dX12_rail_53 ?_
      refine j_callV E [.long ((I b4 v3.toNatClampNeg).toInt64)] [] (c_X12_tell (gL G) (gD G) (gY G) v0 ((I b4 v3.toNatClampNeg).toInt64) Z I L _ hZ kv0 h) (gwV W_820 W_821 W_822 W_695 W_819) rfl ⟨rfl, fy_X12_tell⟩ ⟨by decide, by decide⟩ (c := 12) rfl (by decide) kv0 rfl rfl (Nat.le_of_ble_eq_true rfl) ⟨Nat.zero_le _, Nat.zero_le _⟩ dX12_rail_54 (fun v6 Z7 I8 L9 q10 => ?_)
      obtain ⟨rfl, rfl, h⟩ := q10
      show jJ G 4 57 [(0, .ref v0), (2, .int v2), (3, .int v3)] [] Z I8 L9 0 0
      refine j_iload_n E dX12_rail_57 1 rfl ?_
      refine j_aload_n E dX12_rail_58 0 rfl ?_
      obtain ⟨b12, eb12, kb12, lb12⟩ := sh_f hZ kv0 (j := 35) (k := 14) (m := 8) rfl
      have h := h b12 eb12
      refine j_getr E 12 35 rfl rfl (by decide) (by decide) (iw iT_12) rfl rfl (tw W_827) kv0 eb12 dX12_rail_59 ?_
      refine j_iload_n E dX12_rail_62 2 rfl ?_
      obtain ⟨o13, h⟩ := h
      refine j_iald E kb12 (by rw [lb12]; exact o13) dX12_rail_63 ?_
      refine j_if_le E 71 dX12_rail_64 (by decide) (fun c14 => ?_) (fun c14 => ?_)
      · have h := h.1 c14
        refine j_iconst E (v := 0) dX12_rail_71 (by decide) ?_
        refine j_sub [0, 2] rfl ?_
        exact m_X12_rail_b72 E hZ K40 hK40 v0 v3 v2 (0 : Int32) I8 L9 kv0 h
      · have h := h.2 c14
        refine j_iconst E (v := 1) dX12_rail_67 (by decide) ?_
        refine j_goto E 72 dX12_rail_68 (by decide) ?_
        refine j_sub [0, 2] rfl ?_
        exact m_X12_rail_b72 E hZ K40 hK40 v0 v3 v2 (1 : Int32) I8 L9 kv0 h
set_option maxRecDepth 100000 in
def f_X12_rail (v0 : Nat) (v1 : Int32) (Z : jZ) (I : jI) (L : jL) (Q : Int32 → jI → jL → Prop) : Prop := (∀ I15 : jI, I15 = jpI I v0 22 (0 : Int32) → (((I15 v0 0) = 0 → Q (-1 : Int32) I15 L) ∧ (¬ ((I15 v0 0) = 0) → (f_X12_in v1 (0 : Int32) (9999 : Int32) Z I15 L (fun r23 I19 L20 => ((¬ r23 = 0 → (f_X12_divide v0 v1 (-1 : Int32) Z I19 L20 (fun I27 L28 => (∀ I31 : jI, I31 = jpI I27 v0 21 (0 : Int32) → (∃ m40 : Nat, f_X12_rail_L40  Z Q m40 v0 (0 : Int32) (0 : Int32) I31 L28))))) ∧ (r23 = 0 → Q (-1 : Int32) I19 L20)))))))
set_option maxHeartbeats 4000000 in
set_option maxRecDepth 100000 in
theorem c_X12_rail (l : Launch) (D : va_G) (cy : jC) (v0 : Nat) (v1 : Int32) (Z : jZ) (I : jI) (L : jL) (Q : Int32 → jI → jL → Prop) (hZ : SH Z) (kv0 : jk Z v0 12) (h : f_X12_rail v0 v1 Z I L Q) : jCt l yX12_rail w_X12_rail { frames := 1, cells := 0, slots := 0, locals := 29 } D cy [.ref v0, .int v1] Z I L (rtI Z Q) := by
  refine jCt_of (cc := cX12_rail) (maxL := 4) (ret := (some .int)) (by decide +kernel) rfl (Nat.le_of_ble_eq_true rfl) ?_
  intro G eD eY eL E
  subst eD; subst eY; subst eL
  have E : jE G cX12_rail RX12 w_X12_rail 4 (some .int) { frames := 1, cells := 0, slots := 0, locals := 29 } (rtI Z Q) := E
  show jJ G 4 0 [(0, .ref v0), (1, .int v1)] [] Z I L 0 0
  refine j_aload_n E dX12_rail_0 0 rfl ?_
  refine j_iconst E (v := 0) dX12_rail_1 (by decide) ?_
  refine j_puti E 12 22 rfl rfl (by decide) (by decide) (iw iT_12) tyX12_ok nmX12 rfl rfl (tw W_690) rfl rfl rfl kv0 dX12_rail_2 ?_
  refine j_nmI (fun I15 eI15 => ?_)
  have h := h I15 eI15
  refine j_aload_n E dX12_rail_5 0 rfl ?_
  refine j_geti E 12 0 rfl rfl (by decide) (by decide) (iw iT_12) rfl rfl (tw W_693) kv0 dX12_rail_6 ?_
  refine j_if_eq E 23 dX12_rail_9 (by decide) (fun c16 => ?_) (fun c16 => ?_)
  · have h := h.1 c16
    refine j_iconst E (v := -1) dX12_rail_23 (by decide) ?_
    exact j_ireturn E ⟨rfl, _, rfl, h⟩ (Nat.zero_le _) (Nat.zero_le _) dX12_rail_24
  · have h := h.2 c16
    refine j_iload_n E dX12_rail_12 1 rfl ?_
    refine j_iconst E (v := 0) dX12_rail_13 (by decide) ?_
    refine j_sipush E (v := 9999) dX12_rail_14 (by decide) ?_
    refine j_callS E [.int v1, .int (0 : Int32), .int (9999 : Int32)] [] (c_X12_in (gL G) (gD G) (gY G) v1 (0 : Int32) (9999 : Int32) Z I15 L _ hZ  h) (gwS W_696 W_697 W_695 W_694) rfl fy_X12_in ⟨by decide, by decide⟩ rfl rfl (Nat.le_of_ble_eq_true rfl) ⟨Nat.zero_le _, Nat.zero_le _⟩ dX12_rail_17 (fun v17 Z18 I19 L20 q21 => ?_)
    obtain ⟨rfl, r23, rfl, zr23, h⟩ := q21
    show jJ G 4 20 [(0, .ref v0), (1, .int v1)] [.int r23] Z I19 L20 0 0
    refine j_if_ne E 25 dX12_rail_20 (by decide) (fun c24 => ?_) (fun c24 => ?_)
    · have h := h.1 c24
      refine j_aload_n E dX12_rail_25 0 rfl ?_
      refine j_iload_n E dX12_rail_26 1 rfl ?_
      refine j_iconst E (v := -1) dX12_rail_27 (by decide) ?_
      refine j_callV E [.int v1, .int (-1 : Int32)] [] (c_X12_divide (gL G) (gD G) (gY G) v0 v1 (-1 : Int32) Z I19 L20 _ hZ kv0 h) (gwV W_832 W_833 W_834 W_695 W_831) rfl ⟨rfl, fy_X12_divide⟩ ⟨by decide, by decide⟩ (c := 12) rfl (by decide) kv0 rfl rfl (Nat.le_of_ble_eq_true rfl) ⟨Nat.zero_le _, Nat.zero_le _⟩ dX12_rail_28 (fun v25 Z26 I27 L28 q29 => ?_)
      obtain ⟨rfl, rfl, h⟩ := q29
      show jJ G 4 31 [(0, .ref v0), (1, .int v1)] [] Z I27 L28 0 0
      refine j_iconst E (v := 0) dX12_rail_31 (by decide) ?_
      refine j_istore_n E 2 [(2, .int (0 : Int32)), (0, .ref v0), (1, .int v1)] dX12_rail_32 rfl (by decide) rfl ?_
      refine j_aload_n E dX12_rail_33 1 rfl ?_
      refine j_iconst E (v := 0) dX12_rail_34 (by decide) ?_
      refine j_puti E 12 21 rfl rfl (by decide) (by decide) (iw iT_12) tyX12_ok nmX12 rfl rfl (tw W_692) rfl rfl rfl kv0 dX12_rail_35 ?_
      refine j_nmI (fun I31 eI31 => ?_)
      have h := h I31 eI31
      refine j_iconst E (v := 0) dX12_rail_38 (by decide) ?_
      refine j_istore_n E 3 [(3, .int (0 : Int32)), (2, .int (0 : Int32)), (0, .ref v0), (1, .int v1)] dX12_rail_39 rfl (by decide) rfl ?_
      obtain ⟨n32, h⟩ := h
      refine j_sub [2, 1, 0] rfl ?_
      exact m_X12_rail_L40 E hZ  n32 v0 (0 : Int32) (0 : Int32) I31 L28 kv0 h
    · have h := h.2 c24
      refine j_iconst E (v := -1) dX12_rail_23 (by decide) ?_
      exact j_ireturn E ⟨rfl, _, rfl, h⟩ (Nat.zero_le _) (Nat.zero_le _) dX12_rail_24
