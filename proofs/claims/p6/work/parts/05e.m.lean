set_option maxRecDepth 100000 in
def f_X11_set_b54  (Z : jZ) (Q : Int32 → jI → jL → Prop) (v0 : Nat) (v1 : Int32) (v2 : Int32) (v3 : Int32) (v4 : Int32) (I : jI) (L : jL) : Prop := ((¬ v2 = (1 : Int32) → Q v4 I L) ∧ (v2 = (1 : Int32) → (((9 : Int32) < v3 → Q v4 I L) ∧ (¬ ((9 : Int32) < v3) → (∀ b3 : Nat, jr Z v0 2 = some b3 → (∀ b4 : Nat, jr Z b3 1 = some b4 → (vp_in v1 24 ∧ (∀ x6 : Int32, x6 = (I b4 v1.toNatClampNeg) → (∀ b7 : Nat, jr Z v0 2 = some b7 → (∀ b8 : Nat, jr Z b7 1 = some b8 → (vp_in v1 24 ∧ (∀ I10 : jI, I10 = jpI I b8 v1.toNatClampNeg v3 → Q x6 I10 L))))))))))))
set_option maxHeartbeats 4000000 in
set_option maxRecDepth 100000 in
theorem m_X11_set_b54 {G : jG} {Z : jZ} {Q : Int32 → jI → jL → Prop} (E : jE G cX11_set RX11 w_X11_set 5 (some .int) { frames := 1, cells := 0, slots := 0, locals := 21 } (rtI Z Q)) (hZ : SH Z)  (v0 : Nat) (v1 : Int32) (v2 : Int32) (v3 : Int32) (v4 : Int32) (I : jI) (L : jL) (kv0 : jk Z v0 11) (h : f_X11_set_b54  Z Q v0 v1 v2 v3 v4 I L) : jJ G 5 54 [(0, .ref v0), (1, .int v1), (2, .int v2), (3, .int v3), (4, .int v4)] [] Z I L 0 0 := by
  refine j_iload_n E dX11_set_54 2 rfl ?_
  refine j_iconst E (v := 1) dX11_set_55 (by decide) ?_
  refine j_icmp_ne E 86 dX11_set_56 (by decide) (fun c1 => ?_) (fun c1 => ?_)
  · have h := h.1 c1
    refine j_iload E dX11_set_86 4 rfl ?_
    exact j_ireturn E ⟨rfl, _, rfl, h⟩ (Nat.zero_le _) (Nat.zero_le _) dX11_set_88
  · have h := h.2 c1
    refine j_iload_n E dX11_set_59 3 rfl ?_
    refine j_bipush E (v := 9) dX11_set_60 (by decide) ?_
    refine j_icmp_gt E 86 dX11_set_62 (by decide) (fun c2 => ?_) (fun c2 => ?_)
    · have h := h.1 c2
      refine j_iload E dX11_set_86 4 rfl ?_
      exact j_ireturn E ⟨rfl, _, rfl, h⟩ (Nat.zero_le _) (Nat.zero_le _) dX11_set_88
    · have h := h.2 c2
      refine j_aload_n E dX11_set_65 0 rfl ?_
      obtain ⟨b3, eb3, kb3⟩ := sh_o hZ kv0 (j := 2) (k := 8) rfl
      have h := h b3 eb3
      refine j_getr E 11 2 rfl rfl (by decide) (by decide) (iw iT_11) rfl rfl (tw W_454) kv0 eb3 dX11_set_66 ?_
      obtain ⟨b4, eb4, kb4, lb4⟩ := sh_f hZ kb3 (j := 1) (k := 14) (m := 24) rfl
      have h := h b4 eb4
      refine j_getrN E 8 1 rfl rfl (by decide) (by decide) (iw iT_8) rfl rfl (nw_8_1_X11_151) kb3 eb4 dX11_set_69 ?_
      refine j_iload_n E dX11_set_72 1 rfl ?_
      obtain ⟨o5, h⟩ := h
      refine j_iald E kb4 (by rw [lb4]; exact o5) dX11_set_73 ?_
      refine j_topi (fun x6 ex6 => ?_)
      have h := h x6 ex6
      refine j_istore E 4 [(4, .int x6), (0, .ref v0), (1, .int v1), (2, .int v2), (3, .int v3)] dX11_set_74 (by decide) rfl ?_
      refine j_aload_n E dX11_set_76 1 rfl ?_
      obtain ⟨b7, eb7, kb7⟩ := sh_o hZ kv0 (j := 2) (k := 8) rfl
      have h := h b7 eb7
      refine j_getr E 11 2 rfl rfl (by decide) (by decide) (iw iT_11) rfl rfl (tw W_454) kv0 eb7 dX11_set_77 ?_
      obtain ⟨b8, eb8, kb8, lb8⟩ := sh_f hZ kb7 (j := 1) (k := 14) (m := 24) rfl
      have h := h b8 eb8
      refine j_getrN E 8 1 rfl rfl (by decide) (by decide) (iw iT_8) rfl rfl (nw_8_1_X11_151) kb7 eb8 dX11_set_80 ?_
      refine j_iload_n E dX11_set_83 2 rfl ?_
      refine j_iload_n E dX11_set_84 4 rfl ?_
      obtain ⟨o9, h⟩ := h
      refine j_iast E kb8 (by rw [lb8]; exact o9) dX11_set_85 ?_
      refine j_nmI (fun I10 eI10 => ?_)
      have h := h I10 eI10
      refine j_iload E dX11_set_86 0 rfl ?_
      exact j_ireturn E ⟨rfl, _, rfl, h⟩ (Nat.zero_le _) (Nat.zero_le _) dX11_set_88
set_option maxRecDepth 100000 in
def f_X11_set (v0 : Nat) (v1 : Int32) (v2 : Int32) (v3 : Int32) (Z : jZ) (I : jI) (L : jL) (Q : Int32 → jI → jL → Prop) : Prop := (∀ b11 : Nat, jr Z v0 2 = some b11 → (f_X8_has b11 v1 Z I L (fun r18 I14 L15 => ((r18 = 0 → Q (-1 : Int32) I14 L15) ∧ (¬ (r18 = 0) → ((0 ≤ v3 → ((¬ v2 = 0 → f_X11_set_b54  Z Q v0 v1 v2 v3 (-1 : Int32) I14 L15) ∧ (v2 = 0 → (((20 : Int32) < v3 → f_X11_set_b54  Z Q v0 v1 v2 v3 (-1 : Int32) I14 L15) ∧ (¬ ((20 : Int32) < v3) → (∀ b23 : Nat, jr Z v0 2 = some b23 → (∀ b24 : Nat, jr Z b23 2 = some b24 → (vp_in v1 24 ∧ (∀ x26 : Int32, x26 = (I14 b24 v1.toNatClampNeg) → (∀ b27 : Nat, jr Z v0 2 = some b27 → (∀ b28 : Nat, jr Z b27 2 = some b28 → (vp_in v1 24 ∧ (∀ I30 : jI, I30 = jpI I14 b28 v1.toNatClampNeg v3 → Q x26 I30 L15))))))))))))) ∧ (¬ (0 ≤ v3) → Q (-1 : Int32) I14 L15)))))))
set_option maxHeartbeats 4000000 in
set_option maxRecDepth 100000 in
theorem c_X11_set (l : Launch) (D : va_G) (cy : jC) (v0 : Nat) (v1 : Int32) (v2 : Int32) (v3 : Int32) (Z : jZ) (I : jI) (L : jL) (Q : Int32 → jI → jL → Prop) (hZ : SH Z) (kv0 : jk Z v0 11) (h : f_X11_set v0 v1 v2 v3 Z I L Q) : jCt l yX11_set w_X11_set { frames := 1, cells := 0, slots := 0, locals := 21 } D cy [.ref v0, .int v1, .int v2, .int v3] Z I L (rtI Z Q) := by
  refine jCt_of (cc := cX11_set) (maxL := 5) (ret := (some .int)) (by decide +kernel) rfl (Nat.le_of_ble_eq_true rfl) ?_
  intro G eD eY eL E
  subst eD; subst eY; subst eL
  have E : jE G cX11_set RX11 w_X11_set 5 (some .int) { frames := 1, cells := 0, slots := 0, locals := 21 } (rtI Z Q) := E
  show jJ G 5 0 [(0, .ref v0), (1, .int v1), (2, .int v2), (3, .int v3)] [] Z I L 0 0
  refine j_aload_n E dX11_set_0 0 rfl ?_
  obtain ⟨b11, eb11, kb11⟩ := sh_o hZ kv0 (j := 2) (k := 8) rfl
  have h := h b11 eb11
  refine j_getr E 11 2 rfl rfl (by decide) (by decide) (iw iT_11) rfl rfl (tw W_454) kv0 eb11 dX11_set_1 ?_
  refine j_iload_n E dX11_set_4 1 rfl ?_
  refine j_callV E [.int v1] [] (c_X8_has (gL G) (gD G) (gY G) b11 v1 Z I L _ hZ kb11 h) (gwV W_463 W_256 W_257 W_254 W_253) rfl ⟨rfl, fy_X8_has⟩ ⟨by decide, by decide⟩ (c := 8) rfl (by decide) kb11 rfl rfl (Nat.le_of_ble_eq_true rfl) ⟨Nat.zero_le _, Nat.zero_le _⟩ dX11_set_5 (fun v12 Z13 I14 L15 q16 => ?_)
  obtain ⟨rfl, r18, rfl, zr18, h⟩ := q16
  show jJ G 5 8 [(0, .ref v0), (1, .int v1), (2, .int v2), (3, .int v3)] [.int r18] Z I14 L15 0 0
  refine j_if_eq E 15 dX11_set_8 (by decide) (fun c19 => ?_) (fun c19 => ?_)
  · have h := h.1 c19
    refine j_iconst E (v := -1) dX11_set_15 (by decide) ?_
    exact j_ireturn E ⟨rfl, _, rfl, h⟩ (Nat.zero_le _) (Nat.zero_le _) dX11_set_16
  · have h := h.2 c19
    refine j_iload_n E dX11_set_11 3 rfl ?_
    refine j_if_ge E 17 dX11_set_12 (by decide) (fun c20 => ?_) (fun c20 => ?_)
    · have h := h.1 c20
      refine j_iconst E (v := -1) dX11_set_17 (by decide) ?_
      refine j_istore E 4 [(4, .int (-1 : Int32)), (0, .ref v0), (1, .int v1), (2, .int v2), (3, .int v3)] dX11_set_18 (by decide) rfl ?_
      refine j_iload_n E dX11_set_20 3 rfl ?_
      refine j_if_ne E 54 dX11_set_21 (by decide) (fun c21 => ?_) (fun c21 => ?_)
      · have h := h.1 c21
        refine j_sub [1, 2, 3, 4, 0] rfl ?_
        exact m_X11_set_b54 E hZ  v0 v1 v2 v3 (-1 : Int32) I14 L15 kv0 h
      · have h := h.2 c21
        refine j_iload_n E dX11_set_24 4 rfl ?_
        refine j_bipush E (v := 20) dX11_set_25 (by decide) ?_
        refine j_icmp_gt E 54 dX11_set_27 (by decide) (fun c22 => ?_) (fun c22 => ?_)
        · have h := h.1 c22
          refine j_sub [1, 2, 3, 4, 0] rfl ?_
          exact m_X11_set_b54 E hZ  v0 v1 v2 v3 (-1 : Int32) I14 L15 kv0 h
        · have h := h.2 c22
          refine j_aload_n E dX11_set_30 1 rfl ?_
          obtain ⟨b23, eb23, kb23⟩ := sh_o hZ kv0 (j := 2) (k := 8) rfl
          have h := h b23 eb23
          refine j_getr E 11 2 rfl rfl (by decide) (by decide) (iw iT_11) rfl rfl (tw W_454) kv0 eb23 dX11_set_31 ?_
          obtain ⟨b24, eb24, kb24, lb24⟩ := sh_f hZ kb23 (j := 2) (k := 14) (m := 24) rfl
          have h := h b24 eb24
          refine j_getrN E 8 2 rfl rfl (by decide) (by decide) (iw iT_8) rfl rfl (nw_8_2_X11_154) kb23 eb24 dX11_set_34 ?_
          refine j_iload_n E dX11_set_37 2 rfl ?_
          obtain ⟨o25, h⟩ := h
          refine j_iald E kb24 (by rw [lb24]; exact o25) dX11_set_38 ?_
          refine j_topi (fun x26 ex26 => ?_)
          have h := h x26 ex26
          refine j_istore E 4 [(4, .int x26), (0, .ref v0), (1, .int v1), (2, .int v2), (3, .int v3)] dX11_set_39 (by decide) rfl ?_
          refine j_aload_n E dX11_set_41 1 rfl ?_
          obtain ⟨b27, eb27, kb27⟩ := sh_o hZ kv0 (j := 2) (k := 8) rfl
          have h := h b27 eb27
          refine j_getr E 11 2 rfl rfl (by decide) (by decide) (iw iT_11) rfl rfl (tw W_454) kv0 eb27 dX11_set_42 ?_
          obtain ⟨b28, eb28, kb28, lb28⟩ := sh_f hZ kb27 (j := 2) (k := 14) (m := 24) rfl
          have h := h b28 eb28
          refine j_getrN E 8 2 rfl rfl (by decide) (by decide) (iw iT_8) rfl rfl (nw_8_2_X11_154) kb27 eb28 dX11_set_45 ?_
          refine j_iload_n E dX11_set_48 2 rfl ?_
          refine j_iload_n E dX11_set_49 4 rfl ?_
          obtain ⟨o29, h⟩ := h
          refine j_iast E kb28 (by rw [lb28]; exact o29) dX11_set_50 ?_
          refine j_nmI (fun I30 eI30 => ?_)
          have h := h I30 eI30
          refine j_goto E 86 dX11_set_51 (by decide) ?_
          refine j_iload E dX11_set_86 0 rfl ?_
          exact j_ireturn E ⟨rfl, _, rfl, h⟩ (Nat.zero_le _) (Nat.zero_le _) dX11_set_88
    · have h := h.2 c20
      refine j_iconst E (v := -1) dX11_set_15 (by decide) ?_
      exact j_ireturn E ⟨rfl, _, rfl, h⟩ (Nat.zero_le _) (Nat.zero_le _) dX11_set_16
set_option maxRecDepth 100000 in
def f_X11_entryOf_b20  (Z : jZ) (Q : Int32 → jI → jL → Prop) (s0 : Int32) (I : jI) (L : jL) : Prop := Q (if (0 : Int32) < (if s0 < (20 : Int32) then s0 else (20 : Int32)) then (if s0 < (20 : Int32) then s0 else (20 : Int32)) else (0 : Int32)) I L
set_option maxHeartbeats 4000000 in
set_option maxRecDepth 100000 in
theorem m_X11_entryOf_b20 {G : jG} {Z : jZ} {Q : Int32 → jI → jL → Prop} (E : jE G cX11_entryOf RX11 w_X11_entryOf 3 (some .int) { frames := 1, cells := 0, slots := 0, locals := 23 } (rtI Z Q)) (hZ : SH Z)  (s0 : Int32) (I : jI) (L : jL)  (h : f_X11_entryOf_b20  Z Q s0 I L) : jJ G 3 20 [] [.int s0] Z I L 0 0 := by
  refine j_istore_n E 2 [(2, .int s0)] dX11_entryOf_20 rfl (by decide) rfl ?_
  refine j_iconst E (v := 0) dX11_entryOf_21 (by decide) ?_
  refine j_bipush E (v := 20) dX11_entryOf_22 (by decide) ?_
  refine j_iload_n E dX11_entryOf_24 0 rfl ?_
  refine j_min E (tw W_467) (tw W_7) (tw W_8) (tw W_9) (Nat.le_of_ble_eq_true rfl) (Nat.le_of_ble_eq_true rfl) (Nat.zero_le _) (Nat.zero_le _) dX11_entryOf_25 ?_
  refine j_max E (tw W_468) (tw W_147) (tw W_8) (tw W_148) (Nat.le_of_ble_eq_true rfl) (Nat.le_of_ble_eq_true rfl) (Nat.zero_le _) (Nat.zero_le _) dX11_entryOf_28 ?_
  exact j_ireturn E ⟨rfl, _, rfl, h⟩ (Nat.zero_le _) (Nat.zero_le _) dX11_entryOf_31
set_option maxRecDepth 100000 in
def f_X11_entryOf (v0 : Int32) (v1 : Int32) (Z : jZ) (I : jI) (L : jL) (Q : Int32 → jI → jL → Prop) : Prop := ((¬ v0 = 0 → ((¬ v0 = (1 : Int32) → f_X11_entryOf_b20  Z Q v1 I L) ∧ (v0 = (1 : Int32) → f_X11_entryOf_b20  Z Q (v1.toInt16.toInt32) I L))) ∧ (v0 = 0 → f_X11_entryOf_b20  Z Q (v1.toInt8.toInt32) I L))
set_option maxHeartbeats 4000000 in
set_option maxRecDepth 100000 in
theorem c_X11_entryOf (l : Launch) (D : va_G) (cy : jC) (v0 : Int32) (v1 : Int32) (Z : jZ) (I : jI) (L : jL) (Q : Int32 → jI → jL → Prop) (hZ : SH Z)  (h : f_X11_entryOf v0 v1 Z I L Q) : jCt l yX11_entryOf w_X11_entryOf { frames := 1, cells := 0, slots := 0, locals := 23 } D cy [.int v0, .int v1] Z I L (rtI Z Q) := by
  refine jCt_of (cc := cX11_entryOf) (maxL := 3) (ret := (some .int)) (by decide +kernel) rfl (Nat.le_of_ble_eq_true rfl) ?_
  intro G eD eY eL E
  subst eD; subst eY; subst eL
  have E : jE G cX11_entryOf RX11 w_X11_entryOf 3 (some .int) { frames := 1, cells := 0, slots := 0, locals := 23 } (rtI Z Q) := E
  show jJ G 3 0 [(0, .int v0), (1, .int v1)] [] Z I L 0 0
  refine j_iload_n E dX11_entryOf_0 0 rfl ?_
  refine j_if_ne E 9 dX11_entryOf_1 (by decide) (fun c1 => ?_) (fun c1 => ?_)
  · have h := h.1 c1
    refine j_iload_n E dX11_entryOf_9 0 rfl ?_
    refine j_iconst E (v := 1) dX11_entryOf_10 (by decide) ?_
    refine j_icmp_ne E 19 dX11_entryOf_11 (by decide) (fun c2 => ?_) (fun c2 => ?_)
    · have h := h.1 c2
      refine j_iload_n E dX11_entryOf_19 1 rfl ?_
      refine j_sub [] rfl ?_
      exact m_X11_entryOf_b20 E hZ  v1 I L  h
    · have h := h.2 c2
      refine j_iload_n E dX11_entryOf_14 1 rfl ?_
      refine j_i2s E dX11_entryOf_15 ?_
      refine j_goto E 20 dX11_entryOf_16 (by decide) ?_
      refine j_sub [] rfl ?_
      exact m_X11_entryOf_b20 E hZ  (v1.toInt16.toInt32) I L  h
  · have h := h.2 c1
    refine j_iload_n E dX11_entryOf_4 1 rfl ?_
    refine j_i2b E dX11_entryOf_5 ?_
    refine j_goto E 20 dX11_entryOf_6 (by decide) ?_
    refine j_sub [] rfl ?_
    exact m_X11_entryOf_b20 E hZ  (v1.toInt8.toInt32) I L  h
set_option maxRecDepth 100000 in
def f_X11_sheet_b99 (K56 : Nat → Int32 → Int32 → Int32 → Int32 → Int32 → Int32 → jI → jL → Prop) (Z : jZ) (Q : Int32 → jI → jL → Prop) (v0 : Nat) (v1 : Int32) (v3 : Int32) (v4 : Int32) (v5 : Int32) (v6 : Int32) (v7 : Int32) (s0 : Nat) (s1 : Int32) (s2 : Int32) (I : jI) (L : jL) : Prop := (vp_in s1 (jlen Z s0) ∧ (∀ I2 : jI, I2 = jpI I s0 s1.toNatClampNeg s2 → (∀ x3 : Int32, x3 = v7 + 1 → K56 v0 v1 v3 v4 v5 v6 x3 I2 L)))
set_option maxHeartbeats 4000000 in
set_option maxRecDepth 100000 in
theorem m_X11_sheet_b99 {G : jG} {Z : jZ} {Q : Int32 → jI → jL → Prop} (E : jE G cX11_sheet RX11 w_X11_sheet 8 (some .int) { frames := 2, cells := 0, slots := 0, locals := 45 } (rtI Z Q)) (hZ : SH Z) (K56 : Nat → Int32 → Int32 → Int32 → Int32 → Int32 → Int32 → jI → jL → Prop) (hK56 : ∀ (v0 : Nat) (v1 : Int32) (v3 : Int32) (v4 : Int32) (v5 : Int32) (v6 : Int32) (v7 : Int32) (I : jI) (L : jL), jk Z v0 11 → K56 v0 v1 v3 v4 v5 v6 v7 I L → jJ G 8 56 [(0, .ref v0), (1, .int v1), (3, .int v3), (4, .int v4), (5, .int v5), (6, .int v6), (7, .int v7)] [] Z I L 0 0) (v0 : Nat) (v1 : Int32) (v3 : Int32) (v4 : Int32) (v5 : Int32) (v6 : Int32) (v7 : Int32) (s0 : Nat) (s1 : Int32) (s2 : Int32) (I : jI) (L : jL) (kv0 : jk Z v0 11) (ks0 : jk Z s0 14) (h : f_X11_sheet_b99 K56 Z Q v0 v1 v3 v4 v5 v6 v7 s0 s1 s2 I L) : jJ G 8 99 [(0, .ref v0), (1, .int v1), (3, .int v3), (4, .int v4), (5, .int v5), (6, .int v6), (7, .int v7)] [.int s2, .int s1, .ref s0] Z I L 0 0 := by
  obtain ⟨o1, h⟩ := h
  refine j_iast E ks0 o1 dX11_sheet_99 ?_
  refine j_nmI (fun I2 eI2 => ?_)
  have h := h I2 eI2
  obtain ⟨x3, ex3⟩ : ∃ y : Int32, y = v7 + 1 := ⟨_, rfl⟩
  have h := h x3 ex3
  refine j_iinc E x3 [(7, .int x3), (0, .ref v0), (1, .int v1), (3, .int v3), (4, .int v4), (5, .int v5), (6, .int v6)] dX11_sheet_100 6 rfl (by rw [ex3]; rfl) (by decide) rfl ?_
  refine j_goto E 56 dX11_sheet_103 (by decide) ?_
  refine j_sub [1, 2, 3, 4, 5, 6, 0] rfl ?_
  exact hK56 v0 v1 v3 v4 v5 v6 x3 I2 L kv0 h
set_option maxRecDepth 100000 in
def f_X11_sheet_L56  (Z : jZ) (Q : Int32 → jI → jL → Prop) : Nat → Nat → Int32 → Int32 → Int32 → Int32 → Int32 → Int32 → jI → jL → Prop
  | 0 => fun _ _ _ _ _ _ _ _ _ => False
  | n + 1 => fun v0 v1 v3 v4 v5 v6 v7 I L => (∀ b4 : Nat, jr Z v0 2 = some b4 → (((I b4 9) ≤ v7 → ((v5 = 0 → (∀ b7 : Nat, jr Z v0 2 = some b7 → (f_X8_sumOfAsks b7 Z I L (fun r14 I10 L11 => Q r14 I10 L11)))) ∧ (¬ (v5 = 0) → Q (-3 : Int32) I L))) ∧ (¬ ((I b4 9) ≤ v7) → (∀ b15 : Nat, jr Z v0 2 = some b15 → (∀ b16 : Nat, jr Z b15 2 = some b16 → ((v6 ≤ v7 → f_X11_sheet_b99 (f_X11_sheet_L56 Z Q n) Z Q v0 v1 v3 v4 v5 v6 v7 b16 v7 (0 : Int32) I L) ∧ (¬ (v6 ≤ v7) → (f_X11_entryOf v1 (v3 + (v7 * v4)) Z I L (fun r24 I20 L21 => f_X11_sheet_b99 (f_X11_sheet_L56 Z Q n) Z Q v0 v1 v3 v4 v5 v6 v7 b16 v7 r24 I20 L21)))))))))
set_option maxHeartbeats 4000000 in
set_option maxRecDepth 100000 in
theorem m_X11_sheet_L56 {G : jG} {Z : jZ} {Q : Int32 → jI → jL → Prop} (E : jE G cX11_sheet RX11 w_X11_sheet 8 (some .int) { frames := 2, cells := 0, slots := 0, locals := 45 } (rtI Z Q)) (hZ : SH Z)  : ∀ (n : Nat) (v0 : Nat) (v1 : Int32) (v3 : Int32) (v4 : Int32) (v5 : Int32) (v6 : Int32) (v7 : Int32) (I : jI) (L : jL), jk Z v0 11 → f_X11_sheet_L56  Z Q n v0 v1 v3 v4 v5 v6 v7 I L → jJ G 8 56 [(0, .ref v0), (1, .int v1), (3, .int v3), (4, .int v4), (5, .int v5), (6, .int v6), (7, .int v7)] [] Z I L 0 0 := by
  intro n
  induction n with
  | zero => intro v0 v1 v3 v4 v5 v6 v7 I L _ h; exact h.elim
  | succ n ih =>
    intro v0 v1 v3 v4 v5 v6 v7 I L kv0 h
    have h : (∀ b4 : Nat, jr Z v0 2 = some b4 → (((I b4 9) ≤ v7 → ((v5 = 0 → (∀ b7 : Nat, jr Z v0 2 = some b7 → (f_X8_sumOfAsks b7 Z I L (fun r14 I10 L11 => Q r14 I10 L11)))) ∧ (¬ (v5 = 0) → Q (-3 : Int32) I L))) ∧ (¬ ((I b4 9) ≤ v7) → (∀ b15 : Nat, jr Z v0 2 = some b15 → (∀ b16 : Nat, jr Z b15 2 = some b16 → ((v6 ≤ v7 → f_X11_sheet_b99 (f_X11_sheet_L56 Z Q n) Z Q v0 v1 v3 v4 v5 v6 v7 b16 v7 (0 : Int32) I L) ∧ (¬ (v6 ≤ v7) → (f_X11_entryOf v1 (v3 + (v7 * v4)) Z I L (fun r24 I20 L21 => f_X11_sheet_b99 (f_X11_sheet_L56 Z Q n) Z Q v0 v1 v3 v4 v5 v6 v7 b16 v7 r24 I20 L21))))))))) := h
    obtain ⟨K56, eK56⟩ : ∃ K : Nat → Int32 → Int32 → Int32 → Int32 → Int32 → Int32 → jI → jL → Prop, K = f_X11_sheet_L56  Z Q n := ⟨_, rfl⟩
    have hK56 := ih
    clear eK56 K56
    generalize f_X11_sheet_L56  Z Q n = K56 at hK56 h
    refine j_iload E dX11_sheet_56 6 rfl ?_
    refine j_aload_n E dX11_sheet_58 0 rfl ?_
    obtain ⟨b4, eb4, kb4⟩ := sh_o hZ kv0 (j := 2) (k := 8) rfl
    have h := h b4 eb4
    refine j_getr E 11 2 rfl rfl (by decide) (by decide) (iw iT_11) rfl rfl (tw W_454) kv0 eb4 dX11_sheet_59 ?_
    refine j_getiN E 8 9 rfl rfl (by decide) (by decide) (iw iT_8) rfl rfl (nw_8_9_X11_172) kb4 dX11_sheet_62 ?_
    refine j_icmp_ge E 106 dX11_sheet_65 (by decide) (fun c5 => ?_) (fun c5 => ?_)
    · have h := h.1 c5
      refine j_iload E dX11_sheet_106 4 rfl ?_
      refine j_if_eq E 116 dX11_sheet_108 (by decide) (fun c6 => ?_) (fun c6 => ?_)
      · have h := h.1 c6
        refine j_aload_n E dX11_sheet_116 0 rfl ?_
        obtain ⟨b7, eb7, kb7⟩ := sh_o hZ kv0 (j := 2) (k := 8) rfl
        have h := h b7 eb7
        refine j_getr E 11 2 rfl rfl (by decide) (by decide) (iw iT_11) rfl rfl (tw W_454) kv0 eb7 dX11_sheet_117 ?_
        refine j_callV E [] [] (c_X8_sumOfAsks (gL G) (gD G) (gY G) b7 Z I L _ hZ kb7 h) (gwV W_470 W_471 W_472 W_254 W_469) rfl ⟨rfl, fy_X8_sumOfAsks⟩ ⟨by decide, by decide⟩ (c := 8) rfl (by decide) kb7 rfl rfl (Nat.le_of_ble_eq_true rfl) ⟨Nat.zero_le _, Nat.zero_le _⟩ dX11_sheet_120 (fun v8 Z9 I10 L11 q12 => ?_)
        obtain ⟨rfl, r14, rfl, h⟩ := q12
        show jJ G 8 123 [(0, .ref v0), (1, .int v1), (3, .int v3), (4, .int v4), (5, .int v5), (6, .int v6), (7, .int v7)] [.int r14] Z I10 L11 0 0
        exact j_ireturn E ⟨rfl, _, rfl, h⟩ (Nat.zero_le _) (Nat.zero_le _) dX11_sheet_123
      · have h := h.2 c6
        refine j_bipush E (v := -3) dX11_sheet_111 (by decide) ?_
        refine j_goto E 123 dX11_sheet_113 (by decide) ?_
        exact j_ireturn E ⟨rfl, _, rfl, h⟩ (Nat.zero_le _) (Nat.zero_le _) dX11_sheet_123
    · have h := h.2 c5
      refine j_aload_n E dX11_sheet_68 0 rfl ?_
      obtain ⟨b15, eb15, kb15⟩ := sh_o hZ kv0 (j := 2) (k := 8) rfl
      have h := h b15 eb15
      refine j_getr E 11 2 rfl rfl (by decide) (by decide) (iw iT_11) rfl rfl (tw W_454) kv0 eb15 dX11_sheet_69 ?_
      obtain ⟨b16, eb16, kb16, lb16⟩ := sh_f hZ kb15 (j := 2) (k := 14) (m := 24) rfl
      have h := h b16 eb16
      refine j_getrN E 8 2 rfl rfl (by decide) (by decide) (iw iT_8) rfl rfl (nw_8_2_X11_154) kb15 eb16 dX11_sheet_72 ?_
      refine j_iload E dX11_sheet_75 6 rfl ?_
      refine j_iload E dX11_sheet_77 6 rfl ?_
      refine j_iload E dX11_sheet_79 5 rfl ?_
      refine j_icmp_ge E 98 dX11_sheet_81 (by decide) (fun c17 => ?_) (fun c17 => ?_)
      · have h := h.1 c17
        refine j_iconst E (v := 0) dX11_sheet_98 (by decide) ?_
        refine j_sub [0, 1, 2, 3, 4, 5, 6] rfl ?_
        exact m_X11_sheet_b99 E hZ K56 hK56 v0 v1 v3 v4 v5 v6 v7 b16 v7 (0 : Int32) I L kv0 kb16 h
      · have h := h.2 c17
        refine j_iload_n E dX11_sheet_84 1 rfl ?_
        refine j_iload_n E dX11_sheet_85 2 rfl ?_
        refine j_iload E dX11_sheet_86 6 rfl ?_
        refine j_iload E dX11_sheet_88 3 rfl ?_
        refine j_imul E dX11_sheet_90 ?_
        refine j_iadd E dX11_sheet_91 ?_
        refine j_callS E [.int v1, .int (v3 + (v7 * v4))] [.int v7, .ref b16] (c_X11_entryOf (gL G) (gD G) (gY G) v1 (v3 + (v7 * v4)) Z I L _ hZ  h) (gwS W_474 W_475 W_40 W_473) rfl fy_X11_entryOf ⟨by decide, by decide⟩ rfl rfl (Nat.le_of_ble_eq_true rfl) ⟨Nat.zero_le _, Nat.zero_le _⟩ dX11_sheet_92 (fun v18 Z19 I20 L21 q22 => ?_)
        obtain ⟨rfl, r24, rfl, h⟩ := q22
        show jJ G 8 95 [(0, .ref v0), (1, .int v1), (3, .int v3), (4, .int v4), (5, .int v5), (6, .int v6), (7, .int v7)] [.int r24, .int v7, .ref b16] Z I20 L21 0 0
        refine j_goto E 99 dX11_sheet_95 (by decide) ?_
        refine j_sub [0, 1, 2, 3, 4, 5, 6] rfl ?_
        exact m_X11_sheet_b99 E hZ K56 hK56 v0 v1 v3 v4 v5 v6 v7 b16 v7 r24 I20 L21 kv0 kb16 h
set_option maxRecDepth 100000 in
def f_X11_sheet_b51  (Z : jZ) (Q : Int32 → jI → jL → Prop) (v0 : Nat) (v1 : Int32) (v3 : Int32) (v4 : Int32) (v5 : Int32) (s0 : Int32) (I : jI) (L : jL) : Prop := (∃ m56 : Nat, f_X11_sheet_L56  Z Q m56 v0 v1 v3 v4 v5 s0 (0 : Int32) I L)
set_option maxHeartbeats 4000000 in
set_option maxRecDepth 100000 in
theorem m_X11_sheet_b51 {G : jG} {Z : jZ} {Q : Int32 → jI → jL → Prop} (E : jE G cX11_sheet RX11 w_X11_sheet 8 (some .int) { frames := 2, cells := 0, slots := 0, locals := 45 } (rtI Z Q)) (hZ : SH Z)  (v0 : Nat) (v1 : Int32) (v3 : Int32) (v4 : Int32) (v5 : Int32) (s0 : Int32) (I : jI) (L : jL) (kv0 : jk Z v0 11) (h : f_X11_sheet_b51  Z Q v0 v1 v3 v4 v5 s0 I L) : jJ G 8 51 [(0, .ref v0), (1, .int v1), (3, .int v3), (4, .int v4), (5, .int v5)] [.int s0] Z I L 0 0 := by
  refine j_istore E 6 [(6, .int s0), (0, .ref v0), (1, .int v1), (3, .int v3), (4, .int v4), (5, .int v5)] dX11_sheet_51 (by decide) rfl ?_
  refine j_iconst E (v := 0) dX11_sheet_53 (by decide) ?_
  refine j_istore E 7 [(7, .int (0 : Int32)), (6, .int s0), (0, .ref v0), (1, .int v1), (3, .int v3), (4, .int v4), (5, .int v5)] dX11_sheet_54 (by decide) rfl ?_
  obtain ⟨n25, h⟩ := h
  refine j_sub [2, 3, 4, 5, 6, 1, 0] rfl ?_
  exact m_X11_sheet_L56 E hZ  n25 v0 v1 v3 v4 v5 s0 (0 : Int32) I L kv0 h
set_option maxRecDepth 100000 in
def f_X11_sheet_b41  (Z : jZ) (Q : Int32 → jI → jL → Prop) (v0 : Nat) (v1 : Int32) (v2 : Int32) (v3 : Int32) (v4 : Int32) (v5 : Int32) (I : jI) (L : jL) : Prop := ((v5 = 0 → f_X11_sheet_b51  Z Q v0 v1 v3 v4 v5 v2 I L) ∧ (¬ (v5 = 0) → f_X11_sheet_b51  Z Q v0 v1 v3 v4 v5 (0 : Int32) I L))
set_option maxHeartbeats 4000000 in
set_option maxRecDepth 100000 in
theorem m_X11_sheet_b41 {G : jG} {Z : jZ} {Q : Int32 → jI → jL → Prop} (E : jE G cX11_sheet RX11 w_X11_sheet 8 (some .int) { frames := 2, cells := 0, slots := 0, locals := 45 } (rtI Z Q)) (hZ : SH Z)  (v0 : Nat) (v1 : Int32) (v2 : Int32) (v3 : Int32) (v4 : Int32) (v5 : Int32) (I : jI) (L : jL) (kv0 : jk Z v0 11) (h : f_X11_sheet_b41  Z Q v0 v1 v2 v3 v4 v5 I L) : jJ G 8 41 [(0, .ref v0), (1, .int v1), (2, .int v2), (3, .int v3), (4, .int v4), (5, .int v5)] [] Z I L 0 0 := by
  refine j_iload E dX11_sheet_41 5 rfl ?_
  refine j_if_eq E 50 dX11_sheet_43 (by decide) (fun c26 => ?_) (fun c26 => ?_)
  · have h := h.1 c26
    refine j_iload_n E dX11_sheet_50 2 rfl ?_
    refine j_sub [0, 1, 3, 4, 5] rfl ?_
    exact m_X11_sheet_b51 E hZ  v0 v1 v3 v4 v5 v2 I L kv0 h
  · have h := h.2 c26
    refine j_iconst E (v := 0) dX11_sheet_46 (by decide) ?_
    refine j_goto E 51 dX11_sheet_47 (by decide) ?_
    refine j_sub [0, 1, 3, 4, 5] rfl ?_
    exact m_X11_sheet_b51 E hZ  v0 v1 v3 v4 v5 (0 : Int32) I L kv0 h
set_option maxRecDepth 100000 in
def f_X11_sheet_b27  (Z : jZ) (Q : Int32 → jI → jL → Prop) (v0 : Nat) (v1 : Int32) (v2 : Int32) (v3 : Int32) (v4 : Int32) (s0 : Int32) (I : jI) (L : jL) : Prop := ((¬ s0 = 0 → f_X11_sheet_b41  Z Q v0 v1 v2 v3 v4 s0 I L) ∧ (s0 = 0 → ((0 ≤ v2 → f_X11_sheet_b41  Z Q v0 v1 v2 v3 v4 s0 I L) ∧ (¬ (0 ≤ v2) → Q (-2 : Int32) I L))))
set_option maxHeartbeats 4000000 in
set_option maxRecDepth 100000 in
theorem m_X11_sheet_b27 {G : jG} {Z : jZ} {Q : Int32 → jI → jL → Prop} (E : jE G cX11_sheet RX11 w_X11_sheet 8 (some .int) { frames := 2, cells := 0, slots := 0, locals := 45 } (rtI Z Q)) (hZ : SH Z)  (v0 : Nat) (v1 : Int32) (v2 : Int32) (v3 : Int32) (v4 : Int32) (s0 : Int32) (I : jI) (L : jL) (kv0 : jk Z v0 11) (h : f_X11_sheet_b27  Z Q v0 v1 v2 v3 v4 s0 I L) : jJ G 8 27 [(0, .ref v0), (1, .int v1), (2, .int v2), (3, .int v3), (4, .int v4)] [.int s0] Z I L 0 0 := by
  refine j_istore E 5 [(5, .int s0), (0, .ref v0), (1, .int v1), (2, .int v2), (3, .int v3), (4, .int v4)] dX11_sheet_27 (by decide) rfl ?_
  refine j_iload E dX11_sheet_29 0 rfl ?_
  refine j_if_ne E 41 dX11_sheet_31 (by decide) (fun c27 => ?_) (fun c27 => ?_)
  · have h := h.1 c27
    refine j_sub [1, 2, 3, 4, 5, 0] rfl ?_
    exact m_X11_sheet_b41 E hZ  v0 v1 v2 v3 v4 s0 I L kv0 h
  · have h := h.2 c27
    refine j_iload_n E dX11_sheet_34 3 rfl ?_
    refine j_if_ge E 41 dX11_sheet_35 (by decide) (fun c28 => ?_) (fun c28 => ?_)
    · have h := h.1 c28
      refine j_sub [1, 2, 3, 4, 5, 0] rfl ?_
      exact m_X11_sheet_b41 E hZ  v0 v1 v2 v3 v4 s0 I L kv0 h
    · have h := h.2 c28
      refine j_bipush E (v := -2) dX11_sheet_38 (by decide) ?_
      exact j_ireturn E ⟨rfl, _, rfl, h⟩ (Nat.zero_le _) (Nat.zero_le _) dX11_sheet_40
set_option maxRecDepth 100000 in
def f_X11_sheet (v0 : Nat) (v1 : Int32) (v2 : Int32) (v3 : Int32) (v4 : Int32) (Z : jZ) (I : jI) (L : jL) (Q : Int32 → jI → jL → Prop) : Prop := ((v1 < 0 → Q (-1 : Int32) I L) ∧ (¬ (v1 < 0) → (((3 : Int32) < v1 → Q (-1 : Int32) I L) ∧ (¬ ((3 : Int32) < v1) → ((v2 ≤ (24 : Int32) → ((¬ v1 = (3 : Int32) → f_X11_sheet_b27  Z Q v0 v1 v2 v3 v4 (0 : Int32) I L) ∧ (v1 = (3 : Int32) → f_X11_sheet_b27  Z Q v0 v1 v2 v3 v4 (1 : Int32) I L))) ∧ (¬ (v2 ≤ (24 : Int32)) → Q (-1 : Int32) I L))))))
set_option maxHeartbeats 4000000 in
set_option maxRecDepth 100000 in
theorem c_X11_sheet (l : Launch) (D : va_G) (cy : jC) (v0 : Nat) (v1 : Int32) (v2 : Int32) (v3 : Int32) (v4 : Int32) (Z : jZ) (I : jI) (L : jL) (Q : Int32 → jI → jL → Prop) (hZ : SH Z) (kv0 : jk Z v0 11) (h : f_X11_sheet v0 v1 v2 v3 v4 Z I L Q) : jCt l yX11_sheet w_X11_sheet { frames := 2, cells := 0, slots := 0, locals := 45 } D cy [.ref v0, .int v1, .int v2, .int v3, .int v4] Z I L (rtI Z Q) := by
  refine jCt_of (cc := cX11_sheet) (maxL := 8) (ret := (some .int)) (by decide +kernel) rfl (Nat.le_of_ble_eq_true rfl) ?_
  intro G eD eY eL E
  subst eD; subst eY; subst eL
  have E : jE G cX11_sheet RX11 w_X11_sheet 8 (some .int) { frames := 2, cells := 0, slots := 0, locals := 45 } (rtI Z Q) := E
  show jJ G 8 0 [(0, .ref v0), (1, .int v1), (2, .int v2), (3, .int v3), (4, .int v4)] [] Z I L 0 0
  refine j_iload_n E dX11_sheet_0 1 rfl ?_
  refine j_if_lt E 15 dX11_sheet_1 (by decide) (fun c29 => ?_) (fun c29 => ?_)
  · have h := h.1 c29
    refine j_iconst E (v := -1) dX11_sheet_15 (by decide) ?_
    exact j_ireturn E ⟨rfl, _, rfl, h⟩ (Nat.zero_le _) (Nat.zero_le _) dX11_sheet_16
  · have h := h.2 c29
    refine j_iload_n E dX11_sheet_4 1 rfl ?_
    refine j_iconst E (v := 3) dX11_sheet_5 (by decide) ?_
    refine j_icmp_gt E 15 dX11_sheet_6 (by decide) (fun c30 => ?_) (fun c30 => ?_)
    · have h := h.1 c30
      refine j_iconst E (v := -1) dX11_sheet_15 (by decide) ?_
      exact j_ireturn E ⟨rfl, _, rfl, h⟩ (Nat.zero_le _) (Nat.zero_le _) dX11_sheet_16
    · have h := h.2 c30
      refine j_iload_n E dX11_sheet_9 2 rfl ?_
      refine j_bipush E (v := 24) dX11_sheet_10 (by decide) ?_
      refine j_icmp_le E 17 dX11_sheet_12 (by decide) (fun c31 => ?_) (fun c31 => ?_)
      · have h := h.1 c31
        refine j_iload_n E dX11_sheet_17 1 rfl ?_
        refine j_iconst E (v := 3) dX11_sheet_18 (by decide) ?_
        refine j_icmp_ne E 26 dX11_sheet_19 (by decide) (fun c32 => ?_) (fun c32 => ?_)
        · have h := h.1 c32
          refine j_iconst E (v := 0) dX11_sheet_26 (by decide) ?_
          refine j_sub [0, 1, 2, 3, 4] rfl ?_
          exact m_X11_sheet_b27 E hZ  v0 v1 v2 v3 v4 (0 : Int32) I L kv0 h
        · have h := h.2 c32
          refine j_iconst E (v := 1) dX11_sheet_22 (by decide) ?_
          refine j_goto E 27 dX11_sheet_23 (by decide) ?_
          refine j_sub [0, 1, 2, 3, 4] rfl ?_
          exact m_X11_sheet_b27 E hZ  v0 v1 v2 v3 v4 (1 : Int32) I L kv0 h
      · have h := h.2 c31
        refine j_iconst E (v := -1) dX11_sheet_15 (by decide) ?_
        exact j_ireturn E ⟨rfl, _, rfl, h⟩ (Nat.zero_le _) (Nat.zero_le _) dX11_sheet_16
set_option maxRecDepth 100000 in
def f_X11_feud (v0 : Nat) (v1 : Int32) (v2 : Int32) (v3 : Int32) (Z : jZ) (I : jI) (L : jL) (Q : Int32 → jI → jL → Prop) : Prop := (f_X11_isFamily v1 Z I L (fun r7 I3 L4 => ((r7 = 0 → Q (0 : Int32) I3 L4) ∧ (¬ (r7 = 0) → (f_X11_isFamily v2 Z I3 L4 (fun r15 I11 L12 => ((r15 = 0 → Q (0 : Int32) I11 L12) ∧ (¬ (r15 = 0) → ((¬ v1 = v2 → (∀ b18 : Nat, jr Z v0 2 = some b18 → (f_X8_quarrel b18 v1 v2 v3 Z I11 L12 (fun I21 L22 => Q (1 : Int32) I21 L22)))) ∧ (v1 = v2 → Q (0 : Int32) I11 L12))))))))))
set_option maxHeartbeats 4000000 in
set_option maxRecDepth 100000 in
theorem c_X11_feud (l : Launch) (D : va_G) (cy : jC) (v0 : Nat) (v1 : Int32) (v2 : Int32) (v3 : Int32) (Z : jZ) (I : jI) (L : jL) (Q : Int32 → jI → jL → Prop) (hZ : SH Z) (kv0 : jk Z v0 11) (h : f_X11_feud v0 v1 v2 v3 Z I L Q) : jCt l yX11_feud w_X11_feud { frames := 2, cells := 0, slots := 0, locals := 43 } D cy [.ref v0, .int v1, .int v2, .int v3] Z I L (rtZ Z Q) := by
  refine jCt_of (cc := cX11_feud) (maxL := 4) (ret := (some .boolean)) (by decide +kernel) rfl (Nat.le_of_ble_eq_true rfl) ?_
  intro G eD eY eL E
  subst eD; subst eY; subst eL
  have E : jE G cX11_feud RX11 w_X11_feud 4 (some .boolean) { frames := 2, cells := 0, slots := 0, locals := 43 } (rtZ Z Q) := E
  show jJ G 4 0 [(0, .ref v0), (1, .int v1), (2, .int v2), (3, .int v3)] [] Z I L 0 0
  refine j_iload_n E dX11_feud_0 1 rfl ?_
  refine j_callS E [.int v1] [] (c_X11_isFamily (gL G) (gD G) (gY G) v1 Z I L _ hZ  h) (gwS W_476 W_220 W_40 W_219) rfl fy_X11_isFamily ⟨by decide, by decide⟩ rfl rfl (Nat.le_of_ble_eq_true rfl) ⟨Nat.zero_le _, Nat.zero_le _⟩ dX11_feud_1 (fun v1 Z2 I3 L4 q5 => ?_)
  obtain ⟨rfl, r7, rfl, zr7, h⟩ := q5
  show jJ G 4 4 [(0, .ref v0), (1, .int v1), (2, .int v2), (3, .int v3)] [.int r7] Z I3 L4 0 0
  refine j_if_eq E 19 dX11_feud_4 (by decide) (fun c8 => ?_) (fun c8 => ?_)
  · have h := h.1 c8
    refine j_iconst E (v := 0) dX11_feud_19 (by decide) ?_
    exact j_zreturn E (Or.inl rfl) ⟨rfl, _, rfl, (Or.inl rfl), h⟩ (Nat.zero_le _) (Nat.zero_le _) dX11_feud_20
  · have h := h.2 c8
    refine j_iload_n E dX11_feud_7 2 rfl ?_
    refine j_callS E [.int v2] [] (c_X11_isFamily (gL G) (gD G) (gY G) v2 Z I3 L4 _ hZ  h) (gwS W_476 W_220 W_40 W_219) rfl fy_X11_isFamily ⟨by decide, by decide⟩ rfl rfl (Nat.le_of_ble_eq_true rfl) ⟨Nat.zero_le _, Nat.zero_le _⟩ dX11_feud_8 (fun v9 Z10 I11 L12 q13 => ?_)
    obtain ⟨rfl, r15, rfl, zr15, h⟩ := q13
    show jJ G 4 11 [(0, .ref v0), (1, .int v1), (2, .int v2), (3, .int v3)] [.int r15] Z I11 L12 0 0
    refine j_if_eq E 19 dX11_feud_11 (by decide) (fun c16 => ?_) (fun c16 => ?_)
    · have h := h.1 c16
      refine j_iconst E (v := 0) dX11_feud_19 (by decide) ?_
      exact j_zreturn E (Or.inl rfl) ⟨rfl, _, rfl, (Or.inl rfl), h⟩ (Nat.zero_le _) (Nat.zero_le _) dX11_feud_20
    · have h := h.2 c16
      refine j_iload_n E dX11_feud_14 1 rfl ?_
      refine j_iload_n E dX11_feud_15 2 rfl ?_
      refine j_icmp_ne E 21 dX11_feud_16 (by decide) (fun c17 => ?_) (fun c17 => ?_)
      · have h := h.1 c17
        refine j_aload_n E dX11_feud_21 0 rfl ?_
        obtain ⟨b18, eb18, kb18⟩ := sh_o hZ kv0 (j := 2) (k := 8) rfl
        have h := h b18 eb18
        refine j_getr E 11 2 rfl rfl (by decide) (by decide) (iw iT_11) rfl rfl (tw W_454) kv0 eb18 dX11_feud_22 ?_
        refine j_iload_n E dX11_feud_25 1 rfl ?_
        refine j_iload_n E dX11_feud_26 2 rfl ?_
        refine j_iload_n E dX11_feud_27 3 rfl ?_
        refine j_callV E [.int v1, .int v2, .int v3] [] (c_X8_quarrel (gL G) (gD G) (gY G) b18 v1 v2 v3 Z I11 L12 _ hZ kb18 h) (gwV W_478 W_479 W_480 W_254 W_477) rfl ⟨rfl, fy_X8_quarrel⟩ ⟨by decide, by decide⟩ (c := 8) rfl (by decide) kb18 rfl rfl (Nat.le_of_ble_eq_true rfl) ⟨Nat.zero_le _, Nat.zero_le _⟩ dX11_feud_28 (fun v19 Z20 I21 L22 q23 => ?_)
        obtain ⟨rfl, rfl, h⟩ := q23
        show jJ G 4 31 [(0, .ref v0), (1, .int v1), (2, .int v2), (3, .int v3)] [] Z I21 L22 0 0
        refine j_iconst E (v := 1) dX11_feud_31 (by decide) ?_
        exact j_zreturn E (Or.inr rfl) ⟨rfl, _, rfl, (Or.inr rfl), h⟩ (Nat.zero_le _) (Nat.zero_le _) dX11_feud_32
      · have h := h.2 c17
        refine j_iconst E (v := 0) dX11_feud_19 (by decide) ?_
        exact j_zreturn E (Or.inl rfl) ⟨rfl, _, rfl, (Or.inl rfl), h⟩ (Nat.zero_le _) (Nat.zero_le _) dX11_feud_20
set_option maxRecDepth 100000 in
def f_X11_wears_L16  (Z : jZ) (Q : Int32 → jI → jL → Prop) : Nat → Nat → Int32 → Int32 → Int32 → jI → jL → Prop
  | 0 => fun _ _ _ _ _ _ => False
  | n + 1 => fun v0 v1 v2 v3 I L => (∀ b1 : Nat, jr Z v0 2 = some b1 → (((I b1 9) ≤ v3 → Q v2 I L) ∧ (¬ ((I b1 9) ≤ v3) → (∀ b3 : Nat, jr Z v0 2 = some b3 → (∀ b4 : Nat, jr Z b3 1 = some b4 → (∀ b5 : Nat, jr Z v0 2 = some b5 → (∀ b6 : Nat, jr Z b5 1 = some b6 → (vp_in v3 24 ∧ (vp_in v3 24 ∧ (∀ I9 : jI, I9 = jpI I b4 v3.toNatClampNeg (if (0 : Int32) < ((I b6 v3.toNatClampNeg) - v1) then ((I b6 v3.toNatClampNeg) - v1) else (0 : Int32)) → (∀ b10 : Nat, jr Z v0 2 = some b10 → (∀ b11 : Nat, jr Z b10 1 = some b11 → (vp_in v3 24 ∧ (∀ x13 : Int32, x13 = (v2 + (I9 b11 v3.toNatClampNeg)) → (∀ x14 : Int32, x14 = v3 + 1 → (f_X11_wears_L16 Z Q n) v0 v1 x13 x14 I9 L)))))))))))))))
set_option maxHeartbeats 4000000 in
set_option maxRecDepth 100000 in
theorem m_X11_wears_L16 {G : jG} {Z : jZ} {Q : Int32 → jI → jL → Prop} (E : jE G cX11_wears RX11 w_X11_wears 4 (some .int) { frames := 1, cells := 0, slots := 0, locals := 23 } (rtI Z Q)) (hZ : SH Z)  : ∀ (n : Nat) (v0 : Nat) (v1 : Int32) (v2 : Int32) (v3 : Int32) (I : jI) (L : jL), jk Z v0 11 → f_X11_wears_L16  Z Q n v0 v1 v2 v3 I L → jJ G 4 16 [(0, .ref v0), (1, .int v1), (2, .int v2), (3, .int v3)] [] Z I L 0 0 := by
  intro n
  induction n with
  | zero => intro v0 v1 v2 v3 I L _ h; exact h.elim
  | succ n ih =>
    intro v0 v1 v2 v3 I L kv0 h
    have h : (∀ b1 : Nat, jr Z v0 2 = some b1 → (((I b1 9) ≤ v3 → Q v2 I L) ∧ (¬ ((I b1 9) ≤ v3) → (∀ b3 : Nat, jr Z v0 2 = some b3 → (∀ b4 : Nat, jr Z b3 1 = some b4 → (∀ b5 : Nat, jr Z v0 2 = some b5 → (∀ b6 : Nat, jr Z b5 1 = some b6 → (vp_in v3 24 ∧ (vp_in v3 24 ∧ (∀ I9 : jI, I9 = jpI I b4 v3.toNatClampNeg (if (0 : Int32) < ((I b6 v3.toNatClampNeg) - v1) then ((I b6 v3.toNatClampNeg) - v1) else (0 : Int32)) → (∀ b10 : Nat, jr Z v0 2 = some b10 → (∀ b11 : Nat, jr Z b10 1 = some b11 → (vp_in v3 24 ∧ (∀ x13 : Int32, x13 = (v2 + (I9 b11 v3.toNatClampNeg)) → (∀ x14 : Int32, x14 = v3 + 1 → (f_X11_wears_L16 Z Q n) v0 v1 x13 x14 I9 L))))))))))))))) := h
    obtain ⟨K16, eK16⟩ : ∃ K : Nat → Int32 → Int32 → Int32 → jI → jL → Prop, K = f_X11_wears_L16  Z Q n := ⟨_, rfl⟩
    have hK16 := ih
    clear eK16 K16
    generalize f_X11_wears_L16  Z Q n = K16 at hK16 h
    refine j_iload_n E dX11_wears_16 3 rfl ?_
    refine j_aload_n E dX11_wears_17 0 rfl ?_
    obtain ⟨b1, eb1, kb1⟩ := sh_o hZ kv0 (j := 2) (k := 8) rfl
    have h := h b1 eb1
    refine j_getr E 11 2 rfl rfl (by decide) (by decide) (iw iT_11) rfl rfl (tw W_454) kv0 eb1 dX11_wears_18 ?_
    refine j_getiN E 8 9 rfl rfl (by decide) (by decide) (iw iT_8) rfl rfl (nw_8_9_X11_172) kb1 dX11_wears_21 ?_
    refine j_icmp_ge E 69 dX11_wears_24 (by decide) (fun c2 => ?_) (fun c2 => ?_)
    · have h := h.1 c2
      refine j_iload_n E dX11_wears_69 2 rfl ?_
      exact j_ireturn E ⟨rfl, _, rfl, h⟩ (Nat.zero_le _) (Nat.zero_le _) dX11_wears_70
    · have h := h.2 c2
      refine j_aload_n E dX11_wears_27 0 rfl ?_
      obtain ⟨b3, eb3, kb3⟩ := sh_o hZ kv0 (j := 2) (k := 8) rfl
      have h := h b3 eb3
      refine j_getr E 11 2 rfl rfl (by decide) (by decide) (iw iT_11) rfl rfl (tw W_454) kv0 eb3 dX11_wears_28 ?_
      obtain ⟨b4, eb4, kb4, lb4⟩ := sh_f hZ kb3 (j := 1) (k := 14) (m := 24) rfl
      have h := h b4 eb4
      refine j_getrN E 8 1 rfl rfl (by decide) (by decide) (iw iT_8) rfl rfl (nw_8_1_X11_151) kb3 eb4 dX11_wears_31 ?_
      refine j_iload_n E dX11_wears_34 3 rfl ?_
      refine j_iconst E (v := 0) dX11_wears_35 (by decide) ?_
      refine j_aload_n E dX11_wears_36 0 rfl ?_
      obtain ⟨b5, eb5, kb5⟩ := sh_o hZ kv0 (j := 2) (k := 8) rfl
      have h := h b5 eb5
      refine j_getr E 11 2 rfl rfl (by decide) (by decide) (iw iT_11) rfl rfl (tw W_454) kv0 eb5 dX11_wears_37 ?_
      obtain ⟨b6, eb6, kb6, lb6⟩ := sh_f hZ kb5 (j := 1) (k := 14) (m := 24) rfl
      have h := h b6 eb6
      refine j_getrN E 8 1 rfl rfl (by decide) (by decide) (iw iT_8) rfl rfl (nw_8_1_X11_151) kb5 eb6 dX11_wears_40 ?_
      refine j_iload_n E dX11_wears_43 3 rfl ?_
      obtain ⟨o7, h⟩ := h
      refine j_iald E kb6 (by rw [lb6]; exact o7) dX11_wears_44 ?_
      refine j_iload_n E dX11_wears_45 1 rfl ?_
      refine j_isub E dX11_wears_46 ?_
      refine j_max E (tw W_468) (tw W_147) (tw W_8) (tw W_148) (Nat.le_of_ble_eq_true rfl) (Nat.le_of_ble_eq_true rfl) (Nat.zero_le _) (Nat.zero_le _) dX11_wears_47 ?_
      obtain ⟨o8, h⟩ := h
      refine j_iast E kb4 (by rw [lb4]; exact o8) dX11_wears_50 ?_
      refine j_nmI (fun I9 eI9 => ?_)
      have h := h I9 eI9
      refine j_iload_n E dX11_wears_51 2 rfl ?_
      refine j_aload_n E dX11_wears_52 0 rfl ?_
      obtain ⟨b10, eb10, kb10⟩ := sh_o hZ kv0 (j := 2) (k := 8) rfl
      have h := h b10 eb10
      refine j_getr E 11 2 rfl rfl (by decide) (by decide) (iw iT_11) rfl rfl (tw W_454) kv0 eb10 dX11_wears_53 ?_
      obtain ⟨b11, eb11, kb11, lb11⟩ := sh_f hZ kb10 (j := 1) (k := 14) (m := 24) rfl
      have h := h b11 eb11
      refine j_getrN E 8 1 rfl rfl (by decide) (by decide) (iw iT_8) rfl rfl (nw_8_1_X11_151) kb10 eb11 dX11_wears_56 ?_
      refine j_iload_n E dX11_wears_59 3 rfl ?_
      obtain ⟨o12, h⟩ := h
      refine j_iald E kb11 (by rw [lb11]; exact o12) dX11_wears_60 ?_
      refine j_iadd E dX11_wears_61 ?_
      refine j_topi (fun x13 ex13 => ?_)
      have h := h x13 ex13
      refine j_istore_n E 2 [(2, .int x13), (0, .ref v0), (1, .int v1), (3, .int v3)] dX11_wears_62 rfl (by decide) rfl ?_
      obtain ⟨x14, ex14⟩ : ∃ y : Int32, y = v3 + 1 := ⟨_, rfl⟩
      have h := h x14 ex14
      refine j_iinc E x14 [(3, .int x14), (2, .int x13), (0, .ref v0), (1, .int v1)] dX11_wears_63 3 rfl (by rw [ex14]; rfl) (by decide) rfl ?_
      refine j_goto E 16 dX11_wears_66 (by decide) ?_
      refine j_sub [2, 3, 1, 0] rfl ?_
      exact hK16 v0 v1 x13 x14 I9 L kv0 h
set_option maxRecDepth 100000 in
def f_X11_wears (v0 : Nat) (v1 : Int32) (Z : jZ) (I : jI) (L : jL) (Q : Int32 → jI → jL → Prop) : Prop := ((v1 < 0 → Q (-1 : Int32) I L) ∧ (¬ (v1 < 0) → ((v1 ≤ (9 : Int32) → (∃ m16 : Nat, f_X11_wears_L16  Z Q m16 v0 v1 (0 : Int32) (0 : Int32) I L)) ∧ (¬ (v1 ≤ (9 : Int32)) → Q (-1 : Int32) I L))))
set_option maxHeartbeats 4000000 in
set_option maxRecDepth 100000 in
theorem c_X11_wears (l : Launch) (D : va_G) (cy : jC) (v0 : Nat) (v1 : Int32) (Z : jZ) (I : jI) (L : jL) (Q : Int32 → jI → jL → Prop) (hZ : SH Z) (kv0 : jk Z v0 11) (h : f_X11_wears v0 v1 Z I L Q) : jCt l yX11_wears w_X11_wears { frames := 1, cells := 0, slots := 0, locals := 23 } D cy [.ref v0, .int v1] Z I L (rtI Z Q) := by
  refine jCt_of (cc := cX11_wears) (maxL := 4) (ret := (some .int)) (by decide +kernel) rfl (Nat.le_of_ble_eq_true rfl) ?_
  intro G eD eY eL E
  subst eD; subst eY; subst eL
  have E : jE G cX11_wears RX11 w_X11_wears 4 (some .int) { frames := 1, cells := 0, slots := 0, locals := 23 } (rtI Z Q) := E
  show jJ G 4 0 [(0, .ref v0), (1, .int v1)] [] Z I L 0 0
  refine j_iload_n E dX11_wears_0 1 rfl ?_
  refine j_if_lt E 10 dX11_wears_1 (by decide) (fun c15 => ?_) (fun c15 => ?_)
  · have h := h.1 c15
    refine j_iconst E (v := -1) dX11_wears_10 (by decide) ?_
    exact j_ireturn E ⟨rfl, _, rfl, h⟩ (Nat.zero_le _) (Nat.zero_le _) dX11_wears_11
  · have h := h.2 c15
    refine j_iload_n E dX11_wears_4 1 rfl ?_
    refine j_bipush E (v := 9) dX11_wears_5 (by decide) ?_
    refine j_icmp_le E 12 dX11_wears_7 (by decide) (fun c16 => ?_) (fun c16 => ?_)
    · have h := h.1 c16
      refine j_iconst E (v := 0) dX11_wears_12 (by decide) ?_
      refine j_istore_n E 2 [(2, .int (0 : Int32)), (0, .ref v0), (1, .int v1)] dX11_wears_13 rfl (by decide) rfl ?_
      refine j_iconst E (v := 0) dX11_wears_14 (by decide) ?_
      refine j_istore_n E 3 [(3, .int (0 : Int32)), (2, .int (0 : Int32)), (0, .ref v0), (1, .int v1)] dX11_wears_15 rfl (by decide) rfl ?_
      obtain ⟨n17, h⟩ := h
      refine j_sub [2, 3, 1, 0] rfl ?_
      exact m_X11_wears_L16 E hZ  n17 v0 v1 (0 : Int32) (0 : Int32) I L kv0 h
    · have h := h.2 c16
      refine j_iconst E (v := -1) dX11_wears_10 (by decide) ?_
      exact j_ireturn E ⟨rfl, _, rfl, h⟩ (Nat.zero_le _) (Nat.zero_le _) dX11_wears_11
set_option maxRecDepth 100000 in
def f_X11_vow (v0 : Nat) (v1 : Int32) (v2 : Int32) (Z : jZ) (I : jI) (L : jL) (Q : Int32 → jI → jL → Prop) : Prop := (f_X11_find v0 v1 Z I L (fun r7 I3 L4 => ((r7 = none → Q (-1 : Int32) I3 L4) ∧ (∀ b8 : Nat, r7 = some b8 → ((v2 < 0 → Q (-1 : Int32) I3 L4) ∧ (¬ (v2 < 0) → ((v2 ≤ (255 : Int32) → (∀ x12 : Int32, x12 = (I3 b8 4) → (∀ I13 : jI, I13 = jpI I3 b8 4 v2 → Q x12 I13 L4))) ∧ (¬ (v2 ≤ (255 : Int32)) → Q (-1 : Int32) I3 L4))))))))
set_option maxHeartbeats 4000000 in
set_option maxRecDepth 100000 in
theorem c_X11_vow (l : Launch) (D : va_G) (cy : jC) (v0 : Nat) (v1 : Int32) (v2 : Int32) (Z : jZ) (I : jI) (L : jL) (Q : Int32 → jI → jL → Prop) (hZ : SH Z) (kv0 : jk Z v0 11) (h : f_X11_vow v0 v1 v2 Z I L Q) : jCt l yX11_vow w_X11_vow { frames := 1, cells := 0, slots := 0, locals := 21 } D cy [.ref v0, .int v1, .int v2] Z I L (rtI Z Q) := by
  refine jCt_of (cc := cX11_vow) (maxL := 5) (ret := (some .int)) (by decide +kernel) rfl (Nat.le_of_ble_eq_true rfl) ?_
  intro G eD eY eL E
  subst eD; subst eY; subst eL
  have E : jE G cX11_vow RX11 w_X11_vow 5 (some .int) { frames := 1, cells := 0, slots := 0, locals := 21 } (rtI Z Q) := E
  show jJ G 5 0 [(0, .ref v0), (1, .int v1), (2, .int v2)] [] Z I L 0 0
  refine j_aload_n E dX11_vow_0 0 rfl ?_
  refine j_iload_n E dX11_vow_1 1 rfl ?_
  refine j_callV E [.int v1] [] (c_X11_find (gL G) (gD G) (gY G) v0 v1 Z I L _ hZ kv0 h) (gwV W_437 W_438 W_439 W_40 W_436) rfl ⟨rfl, fy_X11_find⟩ ⟨by decide, by decide⟩ (c := 11) rfl (by decide) kv0 rfl rfl (Nat.le_of_ble_eq_true rfl) ⟨Nat.zero_le _, Nat.zero_le _⟩ dX11_vow_2 (fun v1 Z2 I3 L4 q5 => ?_)
  obtain ⟨rfl, r7, rfl, zr7, h⟩ := q5
  show jJ G 5 5 [(0, .ref v0), (1, .int v1), (2, .int v2)] (va_rf r7 :: []) Z I3 L4 0 0
  rcases c9 : r7 with _ | b8
  · have h := h.1 c9
    refine j_rfN rfl ?_
    refine j_astore_nN E 3 [(3, .null), (0, .ref v0), (1, .int v1), (2, .int v2)] dX11_vow_5 rfl (by decide) rfl ?_
    refine j_aload_nN E dX11_vow_6 0 rfl ?_
    refine j_ifnullN E 21 dX11_vow_7 (by decide) ?_
    refine j_iconst E (v := -1) dX11_vow_21 (by decide) ?_
    exact j_ireturn E ⟨rfl, _, rfl, h⟩ (Nat.zero_le _) (Nat.zero_le _) dX11_vow_22
  · have h := h.2 b8 c9
    have kb8 := zr7 b8 c9
    refine j_rfS rfl ?_
    refine j_astore_n E 3 [(3, .ref b8), (0, .ref v0), (1, .int v1), (2, .int v2)] dX11_vow_5 rfl (by decide) rfl ?_
    refine j_aload_n E dX11_vow_6 0 rfl ?_
    refine j_ifnull E dX11_vow_7 ?_
    refine j_iload_n E dX11_vow_10 3 rfl ?_
    refine j_if_lt E 21 dX11_vow_11 (by decide) (fun c10 => ?_) (fun c10 => ?_)
    · have h := h.1 c10
      refine j_iconst E (v := -1) dX11_vow_21 (by decide) ?_
      exact j_ireturn E ⟨rfl, _, rfl, h⟩ (Nat.zero_le _) (Nat.zero_le _) dX11_vow_22
    · have h := h.2 c10
      refine j_iload_n E dX11_vow_14 3 rfl ?_
      refine j_sipush E (v := 255) dX11_vow_15 (by decide) ?_
      refine j_icmp_le E 23 dX11_vow_18 (by decide) (fun c11 => ?_) (fun c11 => ?_)
      · have h := h.1 c11
        refine j_aload_n E dX11_vow_23 0 rfl ?_
        refine j_getiN E 5 4 rfl rfl (by decide) (by decide) (iw iT_5) rfl rfl (nw_5_4_X11_196) kb8 dX11_vow_24 ?_
        refine j_topi (fun x12 ex12 => ?_)
        have h := h x12 ex12
        refine j_istore E 4 [(4, .int x12), (3, .ref b8), (0, .ref v0), (1, .int v1), (2, .int v2)] dX11_vow_27 (by decide) rfl ?_
        refine j_aload_n E dX11_vow_29 1 rfl ?_
        refine j_iload_n E dX11_vow_30 4 rfl ?_
        refine j_putiN E 5 4 rfl rfl (by decide) (by decide) (iw iT_5) tyX5_ok nmX5 rfl rfl (nw_5_4_X11_196) rfl rfl rfl kb8 dX11_vow_31 ?_
        refine j_nmI (fun I13 eI13 => ?_)
        have h := h I13 eI13
        refine j_iload E dX11_vow_34 0 rfl ?_
        exact j_ireturn E ⟨rfl, _, rfl, h⟩ (Nat.zero_le _) (Nat.zero_le _) dX11_vow_36
      · have h := h.2 c11
        refine j_iconst E (v := -1) dX11_vow_21 (by decide) ?_
        exact j_ireturn E ⟨rfl, _, rfl, h⟩ (Nat.zero_le _) (Nat.zero_le _) dX11_vow_22
set_option maxRecDepth 100000 in
def f_X11_of (v0 : Nat) (v1 : Int32) (v2 : Int32) (Z : jZ) (I : jI) (L : jL) (Q : Int32 → jI → jL → Prop) (QX : jI → jL → Prop) : Prop := (f_X11_find v0 v1 Z I L (fun r7 I3 L4 => ((r7 = none → QX I3 L4) ∧ (∀ b8 : Nat, r7 = some b8 → ((v2 = 0 → Q (I3 b8 5) I3 L4) ∧ (¬ v2 = 0 → ((v2 = 1 → Q (I3 b8 6) I3 L4) ∧ (¬ v2 = 1 → ((v2 = 2 → Q (I3 b8 7) I3 L4) ∧ (¬ v2 = 2 → ((v2 = 3 → Q (I3 b8 2) I3 L4) ∧ (¬ v2 = 3 → ((v2 = 4 → Q (I3 b8 3) I3 L4) ∧ (¬ v2 = 4 → ((v2 = 5 → Q (I3 b8 4) I3 L4) ∧ (¬ v2 = 5 → ((v2 = 6 → Q (I3 b8 0) I3 L4) ∧ (¬ v2 = 6 → ((v2 = 7 → Q (I3 b8 1) I3 L4) ∧ (¬ v2 = 7 → QX I3 L4))))))))))))))))))))
set_option maxHeartbeats 4000000 in
set_option maxRecDepth 100000 in
theorem c_X11_of (l : Launch) (hl0 : l.stackTraces = false) (D : va_G) (cy : jC) (v0 : Nat) (v1 : Int32) (v2 : Int32) (Z : jZ) (I : jI) (L : jL) (Q : Int32 → jI → jL → Prop) (QX : jI → jL → Prop) (hZ : SH Z) (kv0 : jk Z v0 11) (h : f_X11_of v0 v1 v2 Z I L Q QX) : jCtX l yX11_of w_X11_of { frames := 6, cells := 1, slots := 6, locals := 90 } D cy [.ref v0, .int v1, .int v2] Z I L (rtI Z Q) (fun Z9 I9 L9 => Z = Z9 ∧ QX I9 L9) := by
  refine jCtX_of hl0 (cc := cX11_of) (maxL := 4) (ret := (some .int)) (by decide +kernel) rfl (Nat.le_of_ble_eq_true rfl) ?_
  intro G eD eY eL E EX
  subst eD; subst eY; subst eL
  have E : jE G cX11_of RX11 w_X11_of 4 (some .int) { frames := 6, cells := 1, slots := 6, locals := 90 } (rtI Z Q) := E
  show jJ G 4 0 [(0, .ref v0), (1, .int v1), (2, .int v2)] [] Z I L 0 0
  refine j_aload_n E dX11_of_0 0 rfl ?_
  refine j_iload_n E dX11_of_1 1 rfl ?_
  refine j_callV E [.int v1] [] (c_X11_find (gL G) (gD G) (gY G) v0 v1 Z I L _ hZ kv0 h) (gwV W_437 W_438 W_439 W_40 W_436) rfl ⟨rfl, fy_X11_find⟩ ⟨by decide, by decide⟩ (c := 11) rfl (by decide) kv0 rfl rfl (Nat.le_of_ble_eq_true rfl) ⟨Nat.zero_le _, Nat.zero_le _⟩ dX11_of_2 (fun v1 Z2 I3 L4 q5 => ?_)
  obtain ⟨rfl, r7, rfl, zr7, h⟩ := q5
  show jJ G 4 5 [(0, .ref v0), (1, .int v1), (2, .int v2)] (va_rf r7 :: []) Z I3 L4 0 0
  rcases c9 : r7 with _ | b8
  · have h := h.1 c9
    refine j_rfN rfl ?_
    refine j_astore_nN E 3 [(3, .null), (0, .ref v0), (1, .int v1), (2, .int v2)] dX11_of_5 rfl (by decide) rfl ?_
    refine j_aload_nN E dX11_of_6 0 rfl ?_
    refine j_ifnonnullN E dX11_of_7 ?_
    exact j_throw E EX (w := 6) (is := 199) (text := "no such pilgrim") (by decide) W_465 W_466 ⟨by decide, by decide⟩ rfl (by decide) (by decide) ⟨rfl, h⟩ dX11_of_10 dX11_of_13 (Or.inl ⟨dX11_of_14, rfl⟩) dX11_of_16 dX11_of_19
  · have h := h.2 b8 c9
    have kb8 := zr7 b8 c9
    refine j_rfS rfl ?_
    refine j_astore_n E 3 [(3, .ref b8), (0, .ref v0), (1, .int v1), (2, .int v2)] dX11_of_5 rfl (by decide) rfl ?_
    refine j_aload_n E dX11_of_6 0 rfl ?_
    refine j_ifnonnull E 20 dX11_of_7 (by decide) ?_
    refine j_iload_n E dX11_of_20 3 rfl ?_
    by_cases c10 : v2 = 0
    · have h := h.1 c10
      refine j_tableIn E (47) 68 dX11_of_21 (by rw [c10]; decide) (by rw [c10]; decide) (by rw [c10]; rfl) (by decide) ?_
      refine j_aload_n E dX11_of_68 0 rfl ?_
      refine j_getiN E 5 5 rfl rfl (by decide) (by decide) (iw iT_5) rfl rfl (nw_5_5_X11_201) kb8 dX11_of_69 ?_
      exact j_ireturn E ⟨rfl, _, rfl, h⟩ (Nat.zero_le _) (Nat.zero_le _) dX11_of_72
    · have h := h.2 c10
      by_cases c11 : v2 = 1
      · have h := h.1 c11
        refine j_tableIn E (52) 73 dX11_of_21 (by rw [c11]; decide) (by rw [c11]; decide) (by rw [c11]; rfl) (by decide) ?_
        refine j_aload_n E dX11_of_73 0 rfl ?_
        refine j_getiN E 5 6 rfl rfl (by decide) (by decide) (iw iT_5) rfl rfl (nw_5_6_X11_204) kb8 dX11_of_74 ?_
        exact j_ireturn E ⟨rfl, _, rfl, h⟩ (Nat.zero_le _) (Nat.zero_le _) dX11_of_77
      · have h := h.2 c11
        by_cases c12 : v2 = 2
        · have h := h.1 c12
          refine j_tableIn E (57) 78 dX11_of_21 (by rw [c12]; decide) (by rw [c12]; decide) (by rw [c12]; rfl) (by decide) ?_
          refine j_aload_n E dX11_of_78 0 rfl ?_
          refine j_getiN E 5 7 rfl rfl (by decide) (by decide) (iw iT_5) rfl rfl (nw_5_7_X11_207) kb8 dX11_of_79 ?_
          exact j_ireturn E ⟨rfl, _, rfl, h⟩ (Nat.zero_le _) (Nat.zero_le _) dX11_of_82
        · have h := h.2 c12
          by_cases c13 : v2 = 3
          · have h := h.1 c13
            refine j_tableIn E (62) 83 dX11_of_21 (by rw [c13]; decide) (by rw [c13]; decide) (by rw [c13]; rfl) (by decide) ?_
            refine j_aload_n E dX11_of_83 0 rfl ?_
            refine j_getiN E 5 2 rfl rfl (by decide) (by decide) (iw iT_5) rfl rfl (nw_5_2_X11_210) kb8 dX11_of_84 ?_
            exact j_ireturn E ⟨rfl, _, rfl, h⟩ (Nat.zero_le _) (Nat.zero_le _) dX11_of_87
          · have h := h.2 c13
            by_cases c14 : v2 = 4
            · have h := h.1 c14
              refine j_tableIn E (67) 88 dX11_of_21 (by rw [c14]; decide) (by rw [c14]; decide) (by rw [c14]; rfl) (by decide) ?_
              refine j_aload_n E dX11_of_88 0 rfl ?_
              refine j_getiN E 5 3 rfl rfl (by decide) (by decide) (iw iT_5) rfl rfl (nw_5_3_X11_213) kb8 dX11_of_89 ?_
              exact j_ireturn E ⟨rfl, _, rfl, h⟩ (Nat.zero_le _) (Nat.zero_le _) dX11_of_92
            · have h := h.2 c14
              by_cases c15 : v2 = 5
              · have h := h.1 c15
                refine j_tableIn E (72) 93 dX11_of_21 (by rw [c15]; decide) (by rw [c15]; decide) (by rw [c15]; rfl) (by decide) ?_
                refine j_aload_n E dX11_of_93 0 rfl ?_
                refine j_getiN E 5 4 rfl rfl (by decide) (by decide) (iw iT_5) rfl rfl (nw_5_4_X11_196) kb8 dX11_of_94 ?_
                exact j_ireturn E ⟨rfl, _, rfl, h⟩ (Nat.zero_le _) (Nat.zero_le _) dX11_of_97
              · have h := h.2 c15
                by_cases c16 : v2 = 6
                · have h := h.1 c16
                  refine j_tableIn E (77) 98 dX11_of_21 (by rw [c16]; decide) (by rw [c16]; decide) (by rw [c16]; rfl) (by decide) ?_
                  refine j_aload_n E dX11_of_98 0 rfl ?_
                  refine j_getiN E 5 0 rfl rfl (by decide) (by decide) (iw iT_5) rfl rfl (nw_5_0_X11_216) kb8 dX11_of_99 ?_
                  exact j_ireturn E ⟨rfl, _, rfl, h⟩ (Nat.zero_le _) (Nat.zero_le _) dX11_of_102
                · have h := h.2 c16
                  by_cases c17 : v2 = 7
                  · have h := h.1 c17
                    refine j_tableIn E (82) 103 dX11_of_21 (by rw [c17]; decide) (by rw [c17]; decide) (by rw [c17]; rfl) (by decide) ?_
                    refine j_aload_n E dX11_of_103 0 rfl ?_
                    refine j_getiN E 5 1 rfl rfl (by decide) (by decide) (iw iT_5) rfl rfl (nw_5_1_X11_219) kb8 dX11_of_104 ?_
                    exact j_ireturn E ⟨rfl, _, rfl, h⟩ (Nat.zero_le _) (Nat.zero_le _) dX11_of_107
                  · have h := h.2 c17
                    refine j_tableOut E 108 dX11_of_21 (by have tc10 := lv_neT (k := 0) (a := 0) c10 rfl; have tc11 := lv_neT (k := 1) (a := 1) c11 rfl; have tc12 := lv_neT (k := 2) (a := 2) c12 rfl; have tc13 := lv_neT (k := 3) (a := 3) c13 rfl; have tc14 := lv_neT (k := 4) (a := 4) c14 rfl; have tc15 := lv_neT (k := 5) (a := 5) c15 rfl; have tc16 := lv_neT (k := 6) (a := 6) c16 rfl; have tc17 := lv_neT (k := 7) (a := 7) c17 rfl; omega) (by decide) ?_
                    exact j_throw E EX (w := 6) (is := 222) (text := "nothing such of a pilgrim") (by decide) W_465 W_466 ⟨by decide, by decide⟩ rfl (by decide) (by decide) ⟨rfl, h⟩ dX11_of_108 dX11_of_111 (Or.inl ⟨dX11_of_112, rfl⟩) dX11_of_114 dX11_of_117
set_option maxRecDepth 100000 in
def f_X11_tellNothing (v0 : Nat) (Z : jZ) (I : jI) (L : jL) (Q : jI → jL → Prop) : Prop := (∀ I1 : jI, I1 = jpI I v0 16 (0 : Int32) → Q I1 L)
set_option maxHeartbeats 4000000 in
set_option maxRecDepth 100000 in
theorem c_X11_tellNothing (l : Launch) (D : va_G) (cy : jC) (v0 : Nat) (Z : jZ) (I : jI) (L : jL) (Q : jI → jL → Prop) (hZ : SH Z) (kv0 : jk Z v0 11) (h : f_X11_tellNothing v0 Z I L Q) : jCt l yX11_tellNothing w_X11_tellNothing { frames := 0, cells := 0, slots := 0, locals := 0 } D cy [.ref v0] Z I L (rtV Z Q) := by
  refine jCt_of (cc := cX11_tellNothing) (maxL := 1) (ret := none) (by decide +kernel) rfl (Nat.le_of_ble_eq_true rfl) ?_
  intro G eD eY eL E
  subst eD; subst eY; subst eL
  have E : jE G cX11_tellNothing RX11 w_X11_tellNothing 1 none { frames := 0, cells := 0, slots := 0, locals := 0 } (rtV Z Q) := E
  show jJ G 1 0 [(0, .ref v0)] [] Z I L 0 0
  refine j_aload_n E dX11_tellNothing_0 0 rfl ?_
  refine j_iconst E (v := 0) dX11_tellNothing_1 (by decide) ?_
  refine j_puti E 11 16 rfl rfl (by decide) (by decide) (iw iT_11) tyX11_ok nmX11 rfl rfl (tw W_481) rfl rfl rfl kv0 dX11_tellNothing_2 ?_
  refine j_nmI (fun I1 eI1 => ?_)
  have h := h I1 eI1
  exact j_return E ⟨rfl, rfl, h⟩ (Nat.zero_le _) (Nat.zero_le _) dX11_tellNothing_5
set_option maxRecDepth 100000 in
def f_X11_tellMore (v0 : Nat) (v1 : Int64) (Z : jZ) (I : jI) (L : jL) (Q : jI → jL → Prop) : Prop := (∀ b1 : Nat, jr Z v0 15 = some b1 → (((26 : Int32) ≤ (I v0 16) → Q I L) ∧ (¬ ((26 : Int32) ≤ (I v0 16)) → (∀ b3 : Nat, jr Z v0 15 = some b3 → (vp_in (I v0 16) 26 ∧ (∀ L5 : jL, L5 = jpL L b3 (I v0 16).toNatClampNeg v1 → (∀ I6 : jI, I6 = jpI I v0 16 ((I v0 16) + (1 : Int32)) → Q I6 L5)))))))
set_option maxHeartbeats 4000000 in
set_option maxRecDepth 100000 in
theorem c_X11_tellMore (l : Launch) (D : va_G) (cy : jC) (v0 : Nat) (v1 : Int64) (Z : jZ) (I : jI) (L : jL) (Q : jI → jL → Prop) (hZ : SH Z) (kv0 : jk Z v0 11) (h : f_X11_tellMore v0 v1 Z I L Q) : jCt l yX11_tellMore w_X11_tellMore { frames := 0, cells := 0, slots := 0, locals := 0 } D cy [.ref v0, .long v1] Z I L (rtV Z Q) := by
  refine jCt_of (cc := cX11_tellMore) (maxL := 3) (ret := none) (by decide +kernel) rfl (Nat.le_of_ble_eq_true rfl) ?_
  intro G eD eY eL E
  subst eD; subst eY; subst eL
  have E : jE G cX11_tellMore RX11 w_X11_tellMore 3 none { frames := 0, cells := 0, slots := 0, locals := 0 } (rtV Z Q) := E
  show jJ G 3 0 [(0, .ref v0), (1, .long v1)] [] Z I L 0 0
  refine j_aload_n E dX11_tellMore_0 0 rfl ?_
  refine j_geti E 11 16 rfl rfl (by decide) (by decide) (iw iT_11) rfl rfl (tw W_481) kv0 dX11_tellMore_1 ?_
  refine j_aload_n E dX11_tellMore_4 0 rfl ?_
  obtain ⟨b1, eb1, kb1, lb1⟩ := sh_f hZ kv0 (j := 15) (k := 15) (m := 26) rfl
  have h := h b1 eb1
  refine j_getr E 11 15 rfl rfl (by decide) (by decide) (iw iT_11) rfl rfl (tw W_482) kv0 eb1 dX11_tellMore_5 ?_
  refine j_alen15 E (v := 26) kb1 (by rw [lb1]; rfl) dX11_tellMore_8 ?_
  refine j_icmp_ge E 32 dX11_tellMore_9 (by decide) (fun c2 => ?_) (fun c2 => ?_)
  · have h := h.1 c2
    exact j_return E ⟨rfl, rfl, h⟩ (Nat.zero_le _) (Nat.zero_le _) dX11_tellMore_32
  · have h := h.2 c2
    refine j_aload_n E dX11_tellMore_12 0 rfl ?_
    obtain ⟨b3, eb3, kb3, lb3⟩ := sh_f hZ kv0 (j := 15) (k := 15) (m := 26) rfl
    have h := h b3 eb3
    refine j_getr E 11 15 rfl rfl (by decide) (by decide) (iw iT_11) rfl rfl (tw W_482) kv0 eb3 dX11_tellMore_13 ?_
    refine j_aload_n E dX11_tellMore_16 0 rfl ?_
    refine j_geti E 11 16 rfl rfl (by decide) (by decide) (iw iT_11) rfl rfl (tw W_481) kv0 dX11_tellMore_17 ?_
    refine j_lload_n E dX11_tellMore_20 1 rfl ?_
    obtain ⟨o4, h⟩ := h
    refine j_last E kb3 (by rw [lb3]; exact o4) dX11_tellMore_21 ?_
    refine j_nmL (fun L5 eL5 => ?_)
    have h := h L5 eL5
    refine j_aload_n E dX11_tellMore_22 0 rfl ?_
    refine j_dup E dX11_tellMore_23 rfl ?_
    refine j_geti E 11 16 rfl rfl (by decide) (by decide) (iw iT_11) rfl rfl (tw W_481) kv0 dX11_tellMore_24 ?_
    refine j_iconst E (v := 1) dX11_tellMore_27 (by decide) ?_
    refine j_iadd E dX11_tellMore_28 ?_
    refine j_puti E 11 16 rfl rfl (by decide) (by decide) (iw iT_11) tyX11_ok nmX11 rfl rfl (tw W_481) rfl rfl rfl kv0 dX11_tellMore_29 ?_
    refine j_nmI (fun I6 eI6 => ?_)
    have h := h I6 eI6
    exact j_return E ⟨rfl, rfl, h⟩ (Nat.zero_le _) (Nat.zero_le _) dX11_tellMore_32
set_option maxRecDepth 100000 in
def f_X11_tellOne (v0 : Nat) (v1 : Int64) (Z : jZ) (I : jI) (L : jL) (Q : jI → jL → Prop) : Prop := (f_X11_tellNothing v0 Z I L (fun I3 L4 => (f_X11_tellMore v0 v1 Z I3 L4 (fun I9 L10 => Q I9 L10))))
set_option maxHeartbeats 4000000 in
set_option maxRecDepth 100000 in
theorem c_X11_tellOne (l : Launch) (D : va_G) (cy : jC) (v0 : Nat) (v1 : Int64) (Z : jZ) (I : jI) (L : jL) (Q : jI → jL → Prop) (hZ : SH Z) (kv0 : jk Z v0 11) (h : f_X11_tellOne v0 v1 Z I L Q) : jCt l yX11_tellOne w_X11_tellOne { frames := 1, cells := 0, slots := 0, locals := 22 } D cy [.ref v0, .long v1] Z I L (rtV Z Q) := by
  refine jCt_of (cc := cX11_tellOne) (maxL := 3) (ret := none) (by decide +kernel) rfl (Nat.le_of_ble_eq_true rfl) ?_
  intro G eD eY eL E
  subst eD; subst eY; subst eL
  have E : jE G cX11_tellOne RX11 w_X11_tellOne 3 none { frames := 1, cells := 0, slots := 0, locals := 22 } (rtV Z Q) := E
  show jJ G 3 0 [(0, .ref v0), (1, .long v1)] [] Z I L 0 0
  refine j_aload_n E dX11_tellOne_0 0 rfl ?_
  refine j_callV E [] [] (c_X11_tellNothing (gL G) (gD G) (gY G) v0 Z I L _ hZ kv0 h) (gwV W_484 W_485 W_486 W_40 W_483) rfl ⟨rfl, fy_X11_tellNothing⟩ ⟨by decide, by decide⟩ (c := 11) rfl (by decide) kv0 rfl rfl (Nat.le_of_ble_eq_true rfl) ⟨Nat.zero_le _, Nat.zero_le _⟩ dX11_tellOne_1 (fun v1 Z2 I3 L4 q5 => ?_)
  obtain ⟨rfl, rfl, h⟩ := q5
  show jJ G 3 4 [(0, .ref v0), (1, .long v1)] [] Z I3 L4 0 0
  refine j_aload_n E dX11_tellOne_4 0 rfl ?_
  refine j_lload_n E dX11_tellOne_5 1 rfl ?_
  refine j_callV E [.long v1] [] (c_X11_tellMore (gL G) (gD G) (gY G) v0 v1 Z I3 L4 _ hZ kv0 h) (gwV W_488 W_489 W_490 W_40 W_487) rfl ⟨rfl, fy_X11_tellMore⟩ ⟨by decide, by decide⟩ (c := 11) rfl (by decide) kv0 rfl rfl (Nat.le_of_ble_eq_true rfl) ⟨Nat.zero_le _, Nat.zero_le _⟩ dX11_tellOne_6 (fun v7 Z8 I9 L10 q11 => ?_)
  obtain ⟨rfl, rfl, h⟩ := q11
  show jJ G 3 9 [(0, .ref v0), (1, .long v1)] [] Z I9 L10 0 0
  exact j_return E ⟨rfl, rfl, h⟩ (Nat.zero_le _) (Nat.zero_le _) dX11_tellOne_9
set_option maxRecDepth 100000 in
def f_X11_tellTwo (v0 : Nat) (v1 : Int64) (v3 : Int64) (Z : jZ) (I : jI) (L : jL) (Q : jI → jL → Prop) : Prop := (f_X11_tellOne v0 v1 Z I L (fun I3 L4 => (f_X11_tellMore v0 v3 Z I3 L4 (fun I9 L10 => Q I9 L10))))
set_option maxHeartbeats 4000000 in
set_option maxRecDepth 100000 in
theorem c_X11_tellTwo (l : Launch) (D : va_G) (cy : jC) (v0 : Nat) (v1 : Int64) (v3 : Int64) (Z : jZ) (I : jI) (L : jL) (Q : jI → jL → Prop) (hZ : SH Z) (kv0 : jk Z v0 11) (h : f_X11_tellTwo v0 v1 v3 Z I L Q) : jCt l yX11_tellTwo w_X11_tellTwo { frames := 2, cells := 0, slots := 0, locals := 44 } D cy [.ref v0, .long v1, .long v3] Z I L (rtV Z Q) := by
  refine jCt_of (cc := cX11_tellTwo) (maxL := 5) (ret := none) (by decide +kernel) rfl (Nat.le_of_ble_eq_true rfl) ?_
  intro G eD eY eL E
  subst eD; subst eY; subst eL
  have E : jE G cX11_tellTwo RX11 w_X11_tellTwo 5 none { frames := 2, cells := 0, slots := 0, locals := 44 } (rtV Z Q) := E
  show jJ G 5 0 [(0, .ref v0), (1, .long v1), (3, .long v3)] [] Z I L 0 0
  refine j_aload_n E dX11_tellTwo_0 0 rfl ?_
  refine j_lload_n E dX11_tellTwo_1 1 rfl ?_
  refine j_callV E [.long v1] [] (c_X11_tellOne (gL G) (gD G) (gY G) v0 v1 Z I L _ hZ kv0 h) (gwV W_492 W_493 W_494 W_40 W_491) rfl ⟨rfl, fy_X11_tellOne⟩ ⟨by decide, by decide⟩ (c := 11) rfl (by decide) kv0 rfl rfl (Nat.le_of_ble_eq_true rfl) ⟨Nat.zero_le _, Nat.zero_le _⟩ dX11_tellTwo_2 (fun v1 Z2 I3 L4 q5 => ?_)
  obtain ⟨rfl, rfl, h⟩ := q5
  show jJ G 5 5 [(0, .ref v0), (1, .long v1), (3, .long v3)] [] Z I3 L4 0 0
  refine j_aload_n E dX11_tellTwo_5 0 rfl ?_
  refine j_lload_n E dX11_tellTwo_6 2 rfl ?_
  refine j_callV E [.long v3] [] (c_X11_tellMore (gL G) (gD G) (gY G) v0 v3 Z I3 L4 _ hZ kv0 h) (gwV W_488 W_489 W_490 W_40 W_487) rfl ⟨rfl, fy_X11_tellMore⟩ ⟨by decide, by decide⟩ (c := 11) rfl (by decide) kv0 rfl rfl (Nat.le_of_ble_eq_true rfl) ⟨Nat.zero_le _, Nat.zero_le _⟩ dX11_tellTwo_7 (fun v7 Z8 I9 L10 q11 => ?_)
  obtain ⟨rfl, rfl, h⟩ := q11
  show jJ G 5 10 [(0, .ref v0), (1, .long v1), (3, .long v3)] [] Z I9 L10 0 0
  exact j_return E ⟨rfl, rfl, h⟩ (Nat.zero_le _) (Nat.zero_le _) dX11_tellTwo_10
set_option maxRecDepth 100000 in
def f_X11_costs (v0 : Nat) (v1 : Int32) (v2 : Int32) (Z : jZ) (I : jI) (L : jL) (Q : Int32 → jI → jL → Prop) : Prop := (f_X11_find v0 v1 Z I L (fun r7 I3 L4 => ((r7 = none → Q (-1 : Int32) I3 L4) ∧ (∀ b8 : Nat, r7 = some b8 → (∀ b10 : Nat, jr Z v0 2 = some b10 → (f_X8_has b10 v2 Z I3 L4 (fun r17 I13 L14 => ((¬ r17 = 0 → (f_X5_comesTo b8 v2 Z I13 L14 (fun r25 I21 L22 => ((¬ r25 = 0 → (∀ b27 : Nat, jr Z v0 2 = some b27 → (f_X8_effortOfMove b27 (I21 b8 5) v2 (I21 b8 3) Z I21 L22 (fun r34 I30 L31 => (f_X11_tellTwo v0 (r34.toInt64) (((v2 - (I30 b8 5)) - (1 : Int32)).toInt64) Z I30 L31 (fun I37 L38 => (∀ b41 : Nat, jr Z v0 2 = some b41 → (f_X8_costOfMove b41 (I37 b8 5) v2 (I37 b8 3) Z I37 L38 (fun r48 I44 L45 => Q r48 I44 L45))))))))) ∧ (r25 = 0 → Q (-2 : Int32) I21 L22))))) ∧ (r17 = 0 → Q (-1 : Int32) I13 L14)))))))))
set_option maxHeartbeats 4000000 in
set_option maxRecDepth 100000 in
theorem c_X11_costs (l : Launch) (D : va_G) (cy : jC) (v0 : Nat) (v1 : Int32) (v2 : Int32) (Z : jZ) (I : jI) (L : jL) (Q : Int32 → jI → jL → Prop) (hZ : SH Z) (kv0 : jk Z v0 11) (h : f_X11_costs v0 v1 v2 Z I L Q) : jCt l yX11_costs w_X11_costs { frames := 4, cells := 0, slots := 0, locals := 100 } D cy [.ref v0, .int v1, .int v2] Z I L (rtI Z Q) := by
  refine jCt_of (cc := cX11_costs) (maxL := 4) (ret := (some .int)) (by decide +kernel) rfl (Nat.le_of_ble_eq_true rfl) ?_
  intro G eD eY eL E
  subst eD; subst eY; subst eL
  have E : jE G cX11_costs RX11 w_X11_costs 4 (some .int) { frames := 4, cells := 0, slots := 0, locals := 100 } (rtI Z Q) := E
  show jJ G 4 0 [(0, .ref v0), (1, .int v1), (2, .int v2)] [] Z I L 0 0
  refine j_aload_n E dX11_costs_0 0 rfl ?_
  refine j_iload_n E dX11_costs_1 1 rfl ?_
  refine j_callV E [.int v1] [] (c_X11_find (gL G) (gD G) (gY G) v0 v1 Z I L _ hZ kv0 h) (gwV W_437 W_438 W_439 W_40 W_436) rfl ⟨rfl, fy_X11_find⟩ ⟨by decide, by decide⟩ (c := 11) rfl (by decide) kv0 rfl rfl (Nat.le_of_ble_eq_true rfl) ⟨Nat.zero_le _, Nat.zero_le _⟩ dX11_costs_2 (fun v1 Z2 I3 L4 q5 => ?_)
  obtain ⟨rfl, r7, rfl, zr7, h⟩ := q5
  show jJ G 4 5 [(0, .ref v0), (1, .int v1), (2, .int v2)] (va_rf r7 :: []) Z I3 L4 0 0
  rcases c9 : r7 with _ | b8
  · have h := h.1 c9
    refine j_rfN rfl ?_
    refine j_astore_nN E 3 [(3, .null), (0, .ref v0), (1, .int v1), (2, .int v2)] dX11_costs_5 rfl (by decide) rfl ?_
    refine j_aload_nN E dX11_costs_6 0 rfl ?_
    refine j_ifnullN E 21 dX11_costs_7 (by decide) ?_
    refine j_iconst E (v := -1) dX11_costs_21 (by decide) ?_
    exact j_ireturn E ⟨rfl, _, rfl, h⟩ (Nat.zero_le _) (Nat.zero_le _) dX11_costs_22
  · have h := h.2 b8 c9
    have kb8 := zr7 b8 c9
    refine j_rfS rfl ?_
    refine j_astore_n E 3 [(3, .ref b8), (0, .ref v0), (1, .int v1), (2, .int v2)] dX11_costs_5 rfl (by decide) rfl ?_
    refine j_aload_n E dX11_costs_6 0 rfl ?_
    refine j_ifnull E dX11_costs_7 ?_
    refine j_aload_n E dX11_costs_10 1 rfl ?_
    obtain ⟨b10, eb10, kb10⟩ := sh_o hZ kv0 (j := 2) (k := 8) rfl
    have h := h b10 eb10
    refine j_getr E 11 2 rfl rfl (by decide) (by decide) (iw iT_11) rfl rfl (tw W_454) kv0 eb10 dX11_costs_11 ?_
    refine j_iload_n E dX11_costs_14 3 rfl ?_
    refine j_callV E [.int v2] [] (c_X8_has (gL G) (gD G) (gY G) b10 v2 Z I3 L4 _ hZ kb10 h) (gwV W_463 W_256 W_257 W_254 W_253) rfl ⟨rfl, fy_X8_has⟩ ⟨by decide, by decide⟩ (c := 8) rfl (by decide) kb10 rfl rfl (Nat.le_of_ble_eq_true rfl) ⟨Nat.zero_le _, Nat.zero_le _⟩ dX11_costs_15 (fun v11 Z12 I13 L14 q15 => ?_)
    obtain ⟨rfl, r17, rfl, zr17, h⟩ := q15
    show jJ G 4 18 [(3, .ref b8), (0, .ref v0), (1, .int v1), (2, .int v2)] [.int r17] Z I13 L14 0 0
    refine j_if_ne E 23 dX11_costs_18 (by decide) (fun c18 => ?_) (fun c18 => ?_)
    · have h := h.1 c18
      refine j_aload_n E dX11_costs_23 0 rfl ?_
      refine j_iload_n E dX11_costs_24 3 rfl ?_
      refine j_callV E [.int v2] [] (c_X5_comesTo (gL G) (gD G) (gY G) b8 v2 Z I13 L14 _ hZ kb8 h) (gwV W_496 W_497 W_498 W_441 W_495) rfl ⟨rfl, fy_X5_comesTo⟩ ⟨by decide, by decide⟩ (c := 5) rfl (by decide) kb8 rfl rfl (Nat.le_of_ble_eq_true rfl) ⟨Nat.zero_le _, Nat.zero_le _⟩ dX11_costs_25 (fun v19 Z20 I21 L22 q23 => ?_)
      obtain ⟨rfl, r25, rfl, zr25, h⟩ := q23
      show jJ G 4 28 [(3, .ref b8), (0, .ref v0), (1, .int v1), (2, .int v2)] [.int r25] Z I21 L22 0 0
      refine j_if_ne E 34 dX11_costs_28 (by decide) (fun c26 => ?_) (fun c26 => ?_)
      · have h := h.1 c26
        refine j_aload_n E dX11_costs_34 1 rfl ?_
        refine j_aload_n E dX11_costs_35 1 rfl ?_
        obtain ⟨b27, eb27, kb27⟩ := sh_o hZ kv0 (j := 2) (k := 8) rfl
        have h := h b27 eb27
        refine j_getr E 11 2 rfl rfl (by decide) (by decide) (iw iT_11) rfl rfl (tw W_454) kv0 eb27 dX11_costs_36 ?_
        refine j_aload_n E dX11_costs_39 0 rfl ?_
        refine j_getiN E 5 5 rfl rfl (by decide) (by decide) (iw iT_5) rfl rfl (nw_5_5_X11_201) kb8 dX11_costs_40 ?_
        refine j_iload_n E dX11_costs_43 3 rfl ?_
        refine j_aload_n E dX11_costs_44 0 rfl ?_
        refine j_getiN E 5 3 rfl rfl (by decide) (by decide) (iw iT_5) rfl rfl (nw_5_3_X11_213) kb8 dX11_costs_45 ?_
        refine j_callV E [.int (I21 b8 5), .int v2, .int (I21 b8 3)] [.ref v0] (c_X8_effortOfMove (gL G) (gD G) (gY G) b27 (I21 b8 5) v2 (I21 b8 3) Z I21 L22 _ hZ kb27 h) (gwV W_499 W_294 W_295 W_254 W_292) rfl ⟨rfl, fy_X8_effortOfMove⟩ ⟨by decide, by decide⟩ (c := 8) rfl (by decide) kb27 rfl rfl (Nat.le_of_ble_eq_true rfl) ⟨Nat.zero_le _, Nat.zero_le _⟩ dX11_costs_48 (fun v28 Z29 I30 L31 q32 => ?_)
        obtain ⟨rfl, r34, rfl, h⟩ := q32
        show jJ G 4 51 [(3, .ref b8), (0, .ref v0), (1, .int v1), (2, .int v2)] [.int r34, .ref v0] Z I30 L31 0 0
        refine j_i2l E dX11_costs_51 ?_
        refine j_iload_n E dX11_costs_52 3 rfl ?_
        refine j_aload_n E dX11_costs_53 0 rfl ?_
        refine j_getiN E 5 5 rfl rfl (by decide) (by decide) (iw iT_5) rfl rfl (nw_5_5_X11_201) kb8 dX11_costs_54 ?_
        refine j_isub E dX11_costs_57 ?_
        refine j_iconst E (v := 1) dX11_costs_58 (by decide) ?_
        refine j_isub E dX11_costs_59 ?_
        refine j_i2l E dX11_costs_60 ?_
        refine j_callV E [.long (r34.toInt64), .long (((v2 - (I30 b8 5)) - (1 : Int32)).toInt64)] [] (c_X11_tellTwo (gL G) (gD G) (gY G) v0 (r34.toInt64) (((v2 - (I30 b8 5)) - (1 : Int32)).toInt64) Z I30 L31 _ hZ kv0 h) (gwV W_501 W_502 W_503 W_40 W_500) rfl ⟨rfl, fy_X11_tellTwo⟩ ⟨by decide, by decide⟩ (c := 11) rfl (by decide) kv0 rfl rfl (Nat.le_of_ble_eq_true rfl) ⟨Nat.zero_le _, Nat.zero_le _⟩ dX11_costs_61 (fun v35 Z36 I37 L38 q39 => ?_)
        obtain ⟨rfl, rfl, h⟩ := q39
        show jJ G 4 64 [(3, .ref b8), (0, .ref v0), (1, .int v1), (2, .int v2)] [] Z I37 L38 0 0
        refine j_aload_n E dX11_costs_64 1 rfl ?_
        obtain ⟨b41, eb41, kb41⟩ := sh_o hZ kv0 (j := 2) (k := 8) rfl
        have h := h b41 eb41
        refine j_getr E 11 2 rfl rfl (by decide) (by decide) (iw iT_11) rfl rfl (tw W_454) kv0 eb41 dX11_costs_65 ?_
        refine j_aload_n E dX11_costs_68 0 rfl ?_
        refine j_getiN E 5 5 rfl rfl (by decide) (by decide) (iw iT_5) rfl rfl (nw_5_5_X11_201) kb8 dX11_costs_69 ?_
        refine j_iload_n E dX11_costs_72 3 rfl ?_
        refine j_aload_n E dX11_costs_73 0 rfl ?_
        refine j_getiN E 5 3 rfl rfl (by decide) (by decide) (iw iT_5) rfl rfl (nw_5_3_X11_213) kb8 dX11_costs_74 ?_
        refine j_callV E [.int (I37 b8 5), .int v2, .int (I37 b8 3)] [] (c_X8_costOfMove (gL G) (gD G) (gY G) b41 (I37 b8 5) v2 (I37 b8 3) Z I37 L38 _ hZ kb41 h) (gwV W_504 W_290 W_291 W_254 W_288) rfl ⟨rfl, fy_X8_costOfMove⟩ ⟨by decide, by decide⟩ (c := 8) rfl (by decide) kb41 rfl rfl (Nat.le_of_ble_eq_true rfl) ⟨Nat.zero_le _, Nat.zero_le _⟩ dX11_costs_77 (fun v42 Z43 I44 L45 q46 => ?_)
        obtain ⟨rfl, r48, rfl, h⟩ := q46
        show jJ G 4 80 [(3, .ref b8), (0, .ref v0), (1, .int v1), (2, .int v2)] [.int r48] Z I44 L45 0 0
        exact j_ireturn E ⟨rfl, _, rfl, h⟩ (Nat.zero_le _) (Nat.zero_le _) dX11_costs_80
      · have h := h.2 c26
        refine j_bipush E (v := -2) dX11_costs_31 (by decide) ?_
        exact j_ireturn E ⟨rfl, _, rfl, h⟩ (Nat.zero_le _) (Nat.zero_le _) dX11_costs_33
    · have h := h.2 c18
      refine j_iconst E (v := -1) dX11_costs_21 (by decide) ?_
      exact j_ireturn E ⟨rfl, _, rfl, h⟩ (Nat.zero_le _) (Nat.zero_le _) dX11_costs_22
set_option maxRecDepth 100000 in
def f_X11_divide_b123 (K73 : Nat → Int32 → Int32 → jI → jL → Prop) (K92 : Nat → Int32 → Int32 → Int32 → Int32 → jI → jL → Prop) (Z : jZ) (Q : jI → jL → Prop) (v0 : Nat) (v3 : Int32) (v4 : Int32) (v6 : Int32) (s0 : Int32) (I : jI) (L : jL) : Prop := (∀ x1 : Int32, x1 = v6 + 1 → K92 v0 v3 v4 s0 x1 I L)
set_option maxHeartbeats 4000000 in
set_option maxRecDepth 100000 in
theorem m_X11_divide_b123 {G : jG} {Z : jZ} {Q : jI → jL → Prop} (E : jE G cX11_divide RX11 w_X11_divide 7 none { frames := 0, cells := 0, slots := 0, locals := 0 } (rtV Z Q)) (hZ : SH Z) (K73 : Nat → Int32 → Int32 → jI → jL → Prop) (hK73 : ∀ (v0 : Nat) (v3 : Int32) (v4 : Int32) (I : jI) (L : jL), jk Z v0 11 → K73 v0 v3 v4 I L → jJ G 7 73 [(0, .ref v0), (3, .int v3), (4, .int v4)] [] Z I L 0 0) (K92 : Nat → Int32 → Int32 → Int32 → Int32 → jI → jL → Prop) (hK92 : ∀ (v0 : Nat) (v3 : Int32) (v4 : Int32) (v5 : Int32) (v6 : Int32) (I : jI) (L : jL), jk Z v0 11 → K92 v0 v3 v4 v5 v6 I L → jJ G 7 92 [(0, .ref v0), (3, .int v3), (4, .int v4), (5, .int v5), (6, .int v6)] [] Z I L 0 0) (v0 : Nat) (v3 : Int32) (v4 : Int32) (v6 : Int32) (s0 : Int32) (I : jI) (L : jL) (kv0 : jk Z v0 11) (h : f_X11_divide_b123 K73 K92 Z Q v0 v3 v4 v6 s0 I L) : jJ G 7 123 [(0, .ref v0), (3, .int v3), (4, .int v4), (6, .int v6)] [.int s0] Z I L 0 0 := by
  refine j_istore E 5 [(5, .int s0), (0, .ref v0), (3, .int v3), (4, .int v4), (6, .int v6)] dX11_divide_123 (by decide) rfl ?_
  obtain ⟨x1, ex1⟩ : ∃ y : Int32, y = v6 + 1 := ⟨_, rfl⟩
  have h := h x1 ex1
  refine j_iinc E x1 [(6, .int x1), (5, .int s0), (0, .ref v0), (3, .int v3), (4, .int v4)] dX11_divide_125 4 rfl (by rw [ex1]; rfl) (by decide) rfl ?_
  refine j_goto E 92 dX11_divide_128 (by decide) ?_
  refine j_sub [2, 3, 4, 1, 0] rfl ?_
  exact hK92 v0 v3 v4 s0 x1 I L kv0 h
set_option maxRecDepth 100000 in
def f_X11_divide_L92 (K73 : Nat → Int32 → Int32 → jI → jL → Prop) (Z : jZ) (Q : jI → jL → Prop) : Nat → Nat → Int32 → Int32 → Int32 → Int32 → jI → jL → Prop
  | 0 => fun _ _ _ _ _ _ _ => False
  | n + 1 => fun v0 v3 v4 v5 v6 I L => (((8 : Int32) ≤ v6 → (∀ b3 : Nat, jr Z v0 6 = some b3 → (vp_in v5 8 ∧ (vp_in v5 8 ∧ (∀ I6 : jI, I6 = jpI I b3 v5.toNatClampNeg ((I b3 v5.toNatClampNeg) + (1 : Int32)) → (∀ b7 : Nat, jr Z v0 7 = some b7 → (vp_in v5 8 ∧ (∀ I9 : jI, I9 = jpI I6 b7 v5.toNatClampNeg (-1 : Int32) → (∀ x10 : Int32, x10 = v4 + 1 → K73 v0 v3 x10 I9 L))))))))) ∧ (¬ ((8 : Int32) ≤ v6) → (∀ b11 : Nat, jr Z v0 7 = some b11 → (vp_in v6 8 ∧ (∀ b13 : Nat, jr Z v0 7 = some b13 → (vp_in v5 8 ∧ (((I b11 v6.toNatClampNeg) ≤ (I b13 v5.toNatClampNeg) → f_X11_divide_b123 K73 (f_X11_divide_L92 K73 Z Q n) Z Q v0 v3 v4 v6 v5 I L) ∧ (¬ ((I b11 v6.toNatClampNeg) ≤ (I b13 v5.toNatClampNeg)) → f_X11_divide_b123 K73 (f_X11_divide_L92 K73 Z Q n) Z Q v0 v3 v4 v6 v6 I L))))))))
set_option maxHeartbeats 4000000 in
set_option maxRecDepth 100000 in
theorem m_X11_divide_L92 {G : jG} {Z : jZ} {Q : jI → jL → Prop} (E : jE G cX11_divide RX11 w_X11_divide 7 none { frames := 0, cells := 0, slots := 0, locals := 0 } (rtV Z Q)) (hZ : SH Z) (K73 : Nat → Int32 → Int32 → jI → jL → Prop) (hK73 : ∀ (v0 : Nat) (v3 : Int32) (v4 : Int32) (I : jI) (L : jL), jk Z v0 11 → K73 v0 v3 v4 I L → jJ G 7 73 [(0, .ref v0), (3, .int v3), (4, .int v4)] [] Z I L 0 0) : ∀ (n : Nat) (v0 : Nat) (v3 : Int32) (v4 : Int32) (v5 : Int32) (v6 : Int32) (I : jI) (L : jL), jk Z v0 11 → f_X11_divide_L92 K73 Z Q n v0 v3 v4 v5 v6 I L → jJ G 7 92 [(0, .ref v0), (3, .int v3), (4, .int v4), (5, .int v5), (6, .int v6)] [] Z I L 0 0 := by
  intro n
  induction n with
  | zero => intro v0 v3 v4 v5 v6 I L _ h; exact h.elim
  | succ n ih =>
    intro v0 v3 v4 v5 v6 I L kv0 h
    have h : (((8 : Int32) ≤ v6 → (∀ b3 : Nat, jr Z v0 6 = some b3 → (vp_in v5 8 ∧ (vp_in v5 8 ∧ (∀ I6 : jI, I6 = jpI I b3 v5.toNatClampNeg ((I b3 v5.toNatClampNeg) + (1 : Int32)) → (∀ b7 : Nat, jr Z v0 7 = some b7 → (vp_in v5 8 ∧ (∀ I9 : jI, I9 = jpI I6 b7 v5.toNatClampNeg (-1 : Int32) → (∀ x10 : Int32, x10 = v4 + 1 → K73 v0 v3 x10 I9 L))))))))) ∧ (¬ ((8 : Int32) ≤ v6) → (∀ b11 : Nat, jr Z v0 7 = some b11 → (vp_in v6 8 ∧ (∀ b13 : Nat, jr Z v0 7 = some b13 → (vp_in v5 8 ∧ (((I b11 v6.toNatClampNeg) ≤ (I b13 v5.toNatClampNeg) → f_X11_divide_b123 K73 (f_X11_divide_L92 K73 Z Q n) Z Q v0 v3 v4 v6 v5 I L) ∧ (¬ ((I b11 v6.toNatClampNeg) ≤ (I b13 v5.toNatClampNeg)) → f_X11_divide_b123 K73 (f_X11_divide_L92 K73 Z Q n) Z Q v0 v3 v4 v6 v6 I L)))))))) := h
    obtain ⟨K92, eK92⟩ : ∃ K : Nat → Int32 → Int32 → Int32 → Int32 → jI → jL → Prop, K = f_X11_divide_L92 K73 Z Q n := ⟨_, rfl⟩
    have hK92 := ih
    clear eK92 K92
    generalize f_X11_divide_L92 K73 Z Q n = K92 at hK92 h
    refine j_iload E dX11_divide_92 4 rfl ?_
    refine j_bipush E (v := 8) dX11_divide_94 (by decide) ?_
    refine j_icmp_ge E 131 dX11_divide_96 (by decide) (fun c2 => ?_) (fun c2 => ?_)
    · have h := h.1 c2
      refine j_aload_n E dX11_divide_131 0 rfl ?_
      obtain ⟨b3, eb3, kb3, lb3⟩ := sh_f hZ kv0 (j := 6) (k := 14) (m := 8) rfl
      have h := h b3 eb3
      refine j_getr E 11 6 rfl rfl (by decide) (by decide) (iw iT_11) rfl rfl (tw W_505) kv0 eb3 dX11_divide_132 ?_
      refine j_iload E dX11_divide_135 3 rfl ?_
      refine j_dup2_11 E dX11_divide_137 rfl rfl ?_
      obtain ⟨o4, h⟩ := h
      refine j_iald E kb3 (by rw [lb3]; exact o4) dX11_divide_138 ?_
      refine j_iconst E (v := 1) dX11_divide_139 (by decide) ?_
      refine j_iadd E dX11_divide_140 ?_
      obtain ⟨o5, h⟩ := h
      refine j_iast E kb3 (by rw [lb3]; exact o5) dX11_divide_141 ?_
      refine j_nmI (fun I6 eI6 => ?_)
      have h := h I6 eI6
      refine j_aload_n E dX11_divide_142 0 rfl ?_
      obtain ⟨b7, eb7, kb7, lb7⟩ := sh_f hZ kv0 (j := 7) (k := 14) (m := 8) rfl
      have h := h b7 eb7
      refine j_getr E 11 7 rfl rfl (by decide) (by decide) (iw iT_11) rfl rfl (tw W_506) kv0 eb7 dX11_divide_143 ?_
      refine j_iload E dX11_divide_146 3 rfl ?_
      refine j_iconst E (v := -1) dX11_divide_148 (by decide) ?_
      obtain ⟨o8, h⟩ := h
      refine j_iast E kb7 (by rw [lb7]; exact o8) dX11_divide_149 ?_
      refine j_nmI (fun I9 eI9 => ?_)
      have h := h I9 eI9
      obtain ⟨x10, ex10⟩ : ∃ y : Int32, y = v4 + 1 := ⟨_, rfl⟩
      have h := h x10 ex10
      refine j_iinc E x10 [(4, .int x10), (0, .ref v0), (3, .int v3), (5, .int v5), (6, .int v6)] dX11_divide_150 2 rfl (by rw [ex10]; rfl) (by decide) rfl ?_
      refine j_goto E 73 dX11_divide_153 (by decide) ?_
      refine j_sub [1, 2, 0] rfl ?_
      exact hK73 v0 v3 x10 I9 L kv0 h
    · have h := h.2 c2
      refine j_aload_n E dX11_divide_99 0 rfl ?_
      obtain ⟨b11, eb11, kb11, lb11⟩ := sh_f hZ kv0 (j := 7) (k := 14) (m := 8) rfl
      have h := h b11 eb11
      refine j_getr E 11 7 rfl rfl (by decide) (by decide) (iw iT_11) rfl rfl (tw W_506) kv0 eb11 dX11_divide_100 ?_
      refine j_iload E dX11_divide_103 4 rfl ?_
      obtain ⟨o12, h⟩ := h
      refine j_iald E kb11 (by rw [lb11]; exact o12) dX11_divide_105 ?_
      refine j_aload_n E dX11_divide_106 0 rfl ?_
      obtain ⟨b13, eb13, kb13, lb13⟩ := sh_f hZ kv0 (j := 7) (k := 14) (m := 8) rfl
      have h := h b13 eb13
      refine j_getr E 11 7 rfl rfl (by decide) (by decide) (iw iT_11) rfl rfl (tw W_506) kv0 eb13 dX11_divide_107 ?_
      refine j_iload E dX11_divide_110 3 rfl ?_
      obtain ⟨o14, h⟩ := h
      refine j_iald E kb13 (by rw [lb13]; exact o14) dX11_divide_112 ?_
      refine j_icmp_le E 121 dX11_divide_113 (by decide) (fun c15 => ?_) (fun c15 => ?_)
      · have h := h.1 c15
        refine j_iload E dX11_divide_121 3 rfl ?_
        refine j_sub [0, 1, 2, 4] rfl ?_
        exact m_X11_divide_b123 E hZ K73 hK73 K92 hK92 v0 v3 v4 v6 v5 I L kv0 h
      · have h := h.2 c15
        refine j_iload E dX11_divide_116 4 rfl ?_
        refine j_goto E 123 dX11_divide_118 (by decide) ?_
        refine j_sub [0, 1, 2, 4] rfl ?_
        exact m_X11_divide_b123 E hZ K73 hK73 K92 hK92 v0 v3 v4 v6 v6 I L kv0 h
set_option maxRecDepth 100000 in
def f_X11_divide_L73  (Z : jZ) (Q : jI → jL → Prop) : Nat → Nat → Int32 → Int32 → jI → jL → Prop
  | 0 => fun _ _ _ _ _ => False
  | n + 1 => fun v0 v3 v4 I L => ((v3 ≤ v4 → Q I L) ∧ (¬ (v3 ≤ v4) → (((8 : Int32) ≤ v4 → Q I L) ∧ (¬ ((8 : Int32) ≤ v4) → (∃ m92 : Nat, f_X11_divide_L92 (f_X11_divide_L73 Z Q n) Z Q m92 v0 v3 v4 (0 : Int32) (1 : Int32) I L)))))
set_option maxHeartbeats 4000000 in
set_option maxRecDepth 100000 in
theorem m_X11_divide_L73 {G : jG} {Z : jZ} {Q : jI → jL → Prop} (E : jE G cX11_divide RX11 w_X11_divide 7 none { frames := 0, cells := 0, slots := 0, locals := 0 } (rtV Z Q)) (hZ : SH Z)  : ∀ (n : Nat) (v0 : Nat) (v3 : Int32) (v4 : Int32) (I : jI) (L : jL), jk Z v0 11 → f_X11_divide_L73  Z Q n v0 v3 v4 I L → jJ G 7 73 [(0, .ref v0), (3, .int v3), (4, .int v4)] [] Z I L 0 0 := by
  intro n
  induction n with
  | zero => intro v0 v3 v4 I L _ h; exact h.elim
  | succ n ih =>
    intro v0 v3 v4 I L kv0 h
    have h : ((v3 ≤ v4 → Q I L) ∧ (¬ (v3 ≤ v4) → (((8 : Int32) ≤ v4 → Q I L) ∧ (¬ ((8 : Int32) ≤ v4) → (∃ m92 : Nat, f_X11_divide_L92 (f_X11_divide_L73 Z Q n) Z Q m92 v0 v3 v4 (0 : Int32) (1 : Int32) I L))))) := h
    obtain ⟨K73, eK73⟩ : ∃ K : Nat → Int32 → Int32 → jI → jL → Prop, K = f_X11_divide_L73  Z Q n := ⟨_, rfl⟩
    have hK73 := ih
    clear eK73 K73
    generalize f_X11_divide_L73  Z Q n = K73 at hK73 h
    refine j_iload E dX11_divide_73 2 rfl ?_
    refine j_iload_n E dX11_divide_75 1 rfl ?_
    refine j_icmp_ge E 156 dX11_divide_76 (by decide) (fun c16 => ?_) (fun c16 => ?_)
    · have h := h.1 c16
      exact j_return E ⟨rfl, rfl, h⟩ (Nat.zero_le _) (Nat.zero_le _) dX11_divide_156
    · have h := h.2 c16
      refine j_iload E dX11_divide_79 2 rfl ?_
      refine j_bipush E (v := 8) dX11_divide_81 (by decide) ?_
      refine j_icmp_ge E 156 dX11_divide_83 (by decide) (fun c17 => ?_) (fun c17 => ?_)
      · have h := h.1 c17
        exact j_return E ⟨rfl, rfl, h⟩ (Nat.zero_le _) (Nat.zero_le _) dX11_divide_156
      · have h := h.2 c17
        refine j_iconst E (v := 0) dX11_divide_86 (by decide) ?_
        refine j_istore E 5 [(5, .int (0 : Int32)), (0, .ref v0), (3, .int v3), (4, .int v4)] dX11_divide_87 (by decide) rfl ?_
        refine j_iconst E (v := 1) dX11_divide_89 (by decide) ?_
        refine j_istore E 6 [(6, .int (1 : Int32)), (5, .int (0 : Int32)), (0, .ref v0), (3, .int v3), (4, .int v4)] dX11_divide_90 (by decide) rfl ?_
        obtain ⟨n18, h⟩ := h
        refine j_sub [2, 3, 4, 1, 0] rfl ?_
        exact m_X11_divide_L92 E hZ K73 hK73 n18 v0 v3 v4 (0 : Int32) (1 : Int32) I L kv0 h
set_option maxRecDepth 100000 in
def f_X11_divide_L11  (Z : jZ) (Q : jI → jL → Prop) : Nat → Nat → Int32 → Int32 → Int32 → Int32 → jI → jL → Prop
  | 0 => fun _ _ _ _ _ _ _ => False
  | n + 1 => fun v0 v1 v2 v3 v4 I L => (((8 : Int32) ≤ v4 → (∃ m73 : Nat, f_X11_divide_L73  Z Q m73 v0 v3 (0 : Int32) I L)) ∧ (¬ ((8 : Int32) ≤ v4) → (∀ b21 : Nat, jr Z v0 7 = some b21 → (∀ b22 : Nat, jr Z v0 6 = some b22 → (vp_in v4 8 ∧ (¬ v2 = 0 ∧ (vp_in v4 8 ∧ (∀ I26 : jI, I26 = jpI I b21 v4.toNatClampNeg ((v1 * (I b22 v4.toNatClampNeg)) - (v1 * (I b22 v4.toNatClampNeg)) / v2 * v2) → (∀ b27 : Nat, jr Z v0 6 = some b27 → (∀ b28 : Nat, jr Z v0 6 = some b28 → (vp_in v4 8 ∧ (¬ v2 = 0 ∧ (vp_in v4 8 ∧ (∀ I32 : jI, I32 = jpI I26 b27 v4.toNatClampNeg ((v1 * (I26 b28 v4.toNatClampNeg)) / v2) → (∀ b33 : Nat, jr Z v0 6 = some b33 → (vp_in v4 8 ∧ (∀ x35 : Int32, x35 = (v3 - (I32 b33 v4.toNatClampNeg)) → (∀ x36 : Int32, x36 = v4 + 1 → (f_X11_divide_L11 Z Q n) v0 v1 v2 x35 x36 I32 L))))))))))))))))))
set_option maxHeartbeats 4000000 in
set_option maxRecDepth 100000 in
theorem m_X11_divide_L11 {G : jG} {Z : jZ} {Q : jI → jL → Prop} (E : jE G cX11_divide RX11 w_X11_divide 7 none { frames := 0, cells := 0, slots := 0, locals := 0 } (rtV Z Q)) (hZ : SH Z)  : ∀ (n : Nat) (v0 : Nat) (v1 : Int32) (v2 : Int32) (v3 : Int32) (v4 : Int32) (I : jI) (L : jL), jk Z v0 11 → f_X11_divide_L11  Z Q n v0 v1 v2 v3 v4 I L → jJ G 7 11 [(0, .ref v0), (1, .int v1), (2, .int v2), (3, .int v3), (4, .int v4)] [] Z I L 0 0 := by
  intro n
  induction n with
  | zero => intro v0 v1 v2 v3 v4 I L _ h; exact h.elim
  | succ n ih =>
    intro v0 v1 v2 v3 v4 I L kv0 h
    have h : (((8 : Int32) ≤ v4 → (∃ m73 : Nat, f_X11_divide_L73  Z Q m73 v0 v3 (0 : Int32) I L)) ∧ (¬ ((8 : Int32) ≤ v4) → (∀ b21 : Nat, jr Z v0 7 = some b21 → (∀ b22 : Nat, jr Z v0 6 = some b22 → (vp_in v4 8 ∧ (¬ v2 = 0 ∧ (vp_in v4 8 ∧ (∀ I26 : jI, I26 = jpI I b21 v4.toNatClampNeg ((v1 * (I b22 v4.toNatClampNeg)) - (v1 * (I b22 v4.toNatClampNeg)) / v2 * v2) → (∀ b27 : Nat, jr Z v0 6 = some b27 → (∀ b28 : Nat, jr Z v0 6 = some b28 → (vp_in v4 8 ∧ (¬ v2 = 0 ∧ (vp_in v4 8 ∧ (∀ I32 : jI, I32 = jpI I26 b27 v4.toNatClampNeg ((v1 * (I26 b28 v4.toNatClampNeg)) / v2) → (∀ b33 : Nat, jr Z v0 6 = some b33 → (vp_in v4 8 ∧ (∀ x35 : Int32, x35 = (v3 - (I32 b33 v4.toNatClampNeg)) → (∀ x36 : Int32, x36 = v4 + 1 → (f_X11_divide_L11 Z Q n) v0 v1 v2 x35 x36 I32 L)))))))))))))))))) := h
    obtain ⟨K11, eK11⟩ : ∃ K : Nat → Int32 → Int32 → Int32 → Int32 → jI → jL → Prop, K = f_X11_divide_L11  Z Q n := ⟨_, rfl⟩
    have hK11 := ih
    clear eK11 K11
    generalize f_X11_divide_L11  Z Q n = K11 at hK11 h
    refine j_iload E dX11_divide_11 4 rfl ?_
    refine j_bipush E (v := 8) dX11_divide_13 (by decide) ?_
    refine j_icmp_ge E 70 dX11_divide_15 (by decide) (fun c19 => ?_) (fun c19 => ?_)
    · have h := h.1 c19
      refine j_iconst E (v := 0) dX11_divide_70 (by decide) ?_
      refine j_istore E 4 [(4, .int (0 : Int32)), (0, .ref v0), (1, .int v1), (2, .int v2), (3, .int v3)] dX11_divide_71 (by decide) rfl ?_
      obtain ⟨n20, h⟩ := h
      refine j_sub [1, 4, 0] rfl ?_
      exact m_X11_divide_L73 E hZ  n20 v0 v3 (0 : Int32) I L kv0 h
    · have h := h.2 c19
      refine j_aload_n E dX11_divide_18 0 rfl ?_
      obtain ⟨b21, eb21, kb21, lb21⟩ := sh_f hZ kv0 (j := 7) (k := 14) (m := 8) rfl
      have h := h b21 eb21
      refine j_getr E 11 7 rfl rfl (by decide) (by decide) (iw iT_11) rfl rfl (tw W_506) kv0 eb21 dX11_divide_19 ?_
      refine j_iload E dX11_divide_22 4 rfl ?_
      refine j_iload_n E dX11_divide_24 1 rfl ?_
      refine j_aload_n E dX11_divide_25 0 rfl ?_
      obtain ⟨b22, eb22, kb22, lb22⟩ := sh_f hZ kv0 (j := 6) (k := 14) (m := 8) rfl
      have h := h b22 eb22
      refine j_getr E 11 6 rfl rfl (by decide) (by decide) (iw iT_11) rfl rfl (tw W_505) kv0 eb22 dX11_divide_26 ?_
      refine j_iload E dX11_divide_29 4 rfl ?_
      obtain ⟨o23, h⟩ := h
      refine j_iald E kb22 (by rw [lb22]; exact o23) dX11_divide_31 ?_
      refine j_imul E dX11_divide_32 ?_
      refine j_iload_n E dX11_divide_33 2 rfl ?_
      obtain ⟨o24, h⟩ := h
      refine j_irem E dX11_divide_34 o24 ?_
      obtain ⟨o25, h⟩ := h
      refine j_iast E kb21 (by rw [lb21]; exact o25) dX11_divide_35 ?_
      refine j_nmI (fun I26 eI26 => ?_)
      have h := h I26 eI26
      refine j_aload_n E dX11_divide_36 0 rfl ?_
      obtain ⟨b27, eb27, kb27, lb27⟩ := sh_f hZ kv0 (j := 6) (k := 14) (m := 8) rfl
      have h := h b27 eb27
      refine j_getr E 11 6 rfl rfl (by decide) (by decide) (iw iT_11) rfl rfl (tw W_505) kv0 eb27 dX11_divide_37 ?_
      refine j_iload E dX11_divide_40 4 rfl ?_
      refine j_iload_n E dX11_divide_42 1 rfl ?_
      refine j_aload_n E dX11_divide_43 0 rfl ?_
      obtain ⟨b28, eb28, kb28, lb28⟩ := sh_f hZ kv0 (j := 6) (k := 14) (m := 8) rfl
      have h := h b28 eb28
      refine j_getr E 11 6 rfl rfl (by decide) (by decide) (iw iT_11) rfl rfl (tw W_505) kv0 eb28 dX11_divide_44 ?_
      refine j_iload E dX11_divide_47 4 rfl ?_
      obtain ⟨o29, h⟩ := h
      refine j_iald E kb28 (by rw [lb28]; exact o29) dX11_divide_49 ?_
      refine j_imul E dX11_divide_50 ?_
      refine j_iload_n E dX11_divide_51 2 rfl ?_
      obtain ⟨o30, h⟩ := h
      refine j_idiv E dX11_divide_52 o30 ?_
      obtain ⟨o31, h⟩ := h
      refine j_iast E kb27 (by rw [lb27]; exact o31) dX11_divide_53 ?_
      refine j_nmI (fun I32 eI32 => ?_)
      have h := h I32 eI32
      refine j_iload_n E dX11_divide_54 3 rfl ?_
      refine j_aload_n E dX11_divide_55 0 rfl ?_
      obtain ⟨b33, eb33, kb33, lb33⟩ := sh_f hZ kv0 (j := 6) (k := 14) (m := 8) rfl
      have h := h b33 eb33
      refine j_getr E 11 6 rfl rfl (by decide) (by decide) (iw iT_11) rfl rfl (tw W_505) kv0 eb33 dX11_divide_56 ?_
      refine j_iload E dX11_divide_59 4 rfl ?_
      obtain ⟨o34, h⟩ := h
      refine j_iald E kb33 (by rw [lb33]; exact o34) dX11_divide_61 ?_
      refine j_isub E dX11_divide_62 ?_
      refine j_topi (fun x35 ex35 => ?_)
      have h := h x35 ex35
      refine j_istore_n E 3 [(3, .int x35), (0, .ref v0), (1, .int v1), (2, .int v2), (4, .int v4)] dX11_divide_63 rfl (by decide) rfl ?_
      obtain ⟨x36, ex36⟩ : ∃ y : Int32, y = v4 + 1 := ⟨_, rfl⟩
      have h := h x36 ex36
      refine j_iinc E x36 [(4, .int x36), (3, .int x35), (0, .ref v0), (1, .int v1), (2, .int v2)] dX11_divide_64 4 rfl (by rw [ex36]; rfl) (by decide) rfl ?_
      refine j_goto E 11 dX11_divide_67 (by decide) ?_
      refine j_sub [2, 3, 4, 1, 0] rfl ?_
      exact hK11 v0 v1 v2 x35 x36 I32 L kv0 h
set_option maxRecDepth 100000 in
def f_X11_divide (v0 : Nat) (v1 : Int32) (v2 : Int32) (Z : jZ) (I : jI) (L : jL) (Q : jI → jL → Prop) : Prop := (((1 : Int32) ≤ v2 → (∃ m11 : Nat, f_X11_divide_L11  Z Q m11 v0 v1 v2 v1 (0 : Int32) I L)) ∧ (¬ ((1 : Int32) ≤ v2) → Q I L))
set_option maxHeartbeats 4000000 in
set_option maxRecDepth 100000 in
theorem c_X11_divide (l : Launch) (D : va_G) (cy : jC) (v0 : Nat) (v1 : Int32) (v2 : Int32) (Z : jZ) (I : jI) (L : jL) (Q : jI → jL → Prop) (hZ : SH Z) (kv0 : jk Z v0 11) (h : f_X11_divide v0 v1 v2 Z I L Q) : jCt l yX11_divide w_X11_divide { frames := 0, cells := 0, slots := 0, locals := 0 } D cy [.ref v0, .int v1, .int v2] Z I L (rtV Z Q) := by
  refine jCt_of (cc := cX11_divide) (maxL := 7) (ret := none) (by decide +kernel) rfl (Nat.le_of_ble_eq_true rfl) ?_
  intro G eD eY eL E
  subst eD; subst eY; subst eL
  have E : jE G cX11_divide RX11 w_X11_divide 7 none { frames := 0, cells := 0, slots := 0, locals := 0 } (rtV Z Q) := E
  show jJ G 7 0 [(0, .ref v0), (1, .int v1), (2, .int v2)] [] Z I L 0 0
  refine j_iload_n E dX11_divide_0 2 rfl ?_
  refine j_iconst E (v := 1) dX11_divide_1 (by decide) ?_
  refine j_icmp_ge E 6 dX11_divide_2 (by decide) (fun c37 => ?_) (fun c37 => ?_)
  · have h := h.1 c37
    refine j_iload_n E dX11_divide_6 1 rfl ?_
    refine j_istore_n E 3 [(3, .int v1), (0, .ref v0), (1, .int v1), (2, .int v2)] dX11_divide_7 rfl (by decide) rfl ?_
    refine j_iconst E (v := 0) dX11_divide_8 (by decide) ?_
    refine j_istore E 4 [(4, .int (0 : Int32)), (3, .int v1), (0, .ref v0), (1, .int v1), (2, .int v2)] dX11_divide_9 (by decide) rfl ?_
    obtain ⟨n38, h⟩ := h
    refine j_sub [2, 3, 4, 1, 0] rfl ?_
    exact m_X11_divide_L11 E hZ  n38 v0 v1 v2 v1 (0 : Int32) I L kv0 h
  · have h := h.2 c37
    exact j_return E ⟨rfl, rfl, h⟩ (Nat.zero_le _) (Nat.zero_le _) dX11_divide_5
set_option maxRecDepth 100000 in
def f_X11_lead_L26  (Z : jZ) (Q : jI → jL → Prop) : Nat → Nat → Int32 → Int32 → jI → jL → Prop
  | 0 => fun _ _ _ _ _ => False
  | n + 1 => fun v0 v3 v4 I L => (((8 : Int32) ≤ v4 → Q I L) ∧ (¬ ((8 : Int32) ≤ v4) → (∀ b2 : Nat, jr Z v0 5 = some b2 → (vp_in v4 8 ∧ (∀ b4 : Nat, jr Z v0 6 = some b4 → (vp_in v4 8 ∧ (vp_in v4 8 ∧ (∀ I7 : jI, I7 = jpI I b2 v4.toNatClampNeg ((I b2 v4.toNatClampNeg) + (v3 * (I b4 v4.toNatClampNeg))) → (∀ x8 : Int32, x8 = v4 + 1 → (f_X11_lead_L26 Z Q n) v0 v3 x8 I7 L)))))))))
set_option maxHeartbeats 4000000 in
set_option maxRecDepth 100000 in
theorem m_X11_lead_L26 {G : jG} {Z : jZ} {Q : jI → jL → Prop} (E : jE G cX11_lead RX11 w_X11_lead 5 none { frames := 3, cells := 0, slots := 0, locals := 65 } (rtV Z Q)) (hZ : SH Z)  : ∀ (n : Nat) (v0 : Nat) (v3 : Int32) (v4 : Int32) (I : jI) (L : jL), jk Z v0 11 → f_X11_lead_L26  Z Q n v0 v3 v4 I L → jJ G 5 26 [(0, .ref v0), (3, .int v3), (4, .int v4)] [] Z I L 0 0 := by
  intro n
  induction n with
  | zero => intro v0 v3 v4 I L _ h; exact h.elim
  | succ n ih =>
    intro v0 v3 v4 I L kv0 h
    have h : (((8 : Int32) ≤ v4 → Q I L) ∧ (¬ ((8 : Int32) ≤ v4) → (∀ b2 : Nat, jr Z v0 5 = some b2 → (vp_in v4 8 ∧ (∀ b4 : Nat, jr Z v0 6 = some b4 → (vp_in v4 8 ∧ (vp_in v4 8 ∧ (∀ I7 : jI, I7 = jpI I b2 v4.toNatClampNeg ((I b2 v4.toNatClampNeg) + (v3 * (I b4 v4.toNatClampNeg))) → (∀ x8 : Int32, x8 = v4 + 1 → (f_X11_lead_L26 Z Q n) v0 v3 x8 I7 L))))))))) := h
    obtain ⟨K26, eK26⟩ : ∃ K : Nat → Int32 → Int32 → jI → jL → Prop, K = f_X11_lead_L26  Z Q n := ⟨_, rfl⟩
    have hK26 := ih
    clear eK26 K26
    generalize f_X11_lead_L26  Z Q n = K26 at hK26 h
    refine j_iload E dX11_lead_26 2 rfl ?_
    refine j_bipush E (v := 8) dX11_lead_28 (by decide) ?_
    refine j_icmp_ge E 58 dX11_lead_30 (by decide) (fun c1 => ?_) (fun c1 => ?_)
    · have h := h.1 c1
      exact j_return E ⟨rfl, rfl, h⟩ (Nat.zero_le _) (Nat.zero_le _) dX11_lead_58
    · have h := h.2 c1
      refine j_aload_n E dX11_lead_33 0 rfl ?_
      obtain ⟨b2, eb2, kb2, lb2⟩ := sh_f hZ kv0 (j := 5) (k := 14) (m := 8) rfl
      have h := h b2 eb2
      refine j_getr E 11 5 rfl rfl (by decide) (by decide) (iw iT_11) rfl rfl (tw W_434) kv0 eb2 dX11_lead_34 ?_
      refine j_iload E dX11_lead_37 2 rfl ?_
      refine j_dup2_11 E dX11_lead_39 rfl rfl ?_
      obtain ⟨o3, h⟩ := h
      refine j_iald E kb2 (by rw [lb2]; exact o3) dX11_lead_40 ?_
      refine j_iload_n E dX11_lead_41 1 rfl ?_
      refine j_aload_n E dX11_lead_42 0 rfl ?_
      obtain ⟨b4, eb4, kb4, lb4⟩ := sh_f hZ kv0 (j := 6) (k := 14) (m := 8) rfl
      have h := h b4 eb4
      refine j_getr E 11 6 rfl rfl (by decide) (by decide) (iw iT_11) rfl rfl (tw W_505) kv0 eb4 dX11_lead_43 ?_
      refine j_iload E dX11_lead_46 2 rfl ?_
      obtain ⟨o5, h⟩ := h
      refine j_iald E kb4 (by rw [lb4]; exact o5) dX11_lead_48 ?_
      refine j_imul E dX11_lead_49 ?_
      refine j_iadd E dX11_lead_50 ?_
      obtain ⟨o6, h⟩ := h
      refine j_iast E kb2 (by rw [lb2]; exact o6) dX11_lead_51 ?_
      refine j_nmI (fun I7 eI7 => ?_)
      have h := h I7 eI7
      obtain ⟨x8, ex8⟩ : ∃ y : Int32, y = v4 + 1 := ⟨_, rfl⟩
      have h := h x8 ex8
      refine j_iinc E x8 [(4, .int x8), (0, .ref v0), (3, .int v3)] dX11_lead_52 2 rfl (by rw [ex8]; rfl) (by decide) rfl ?_
      refine j_goto E 26 dX11_lead_55 (by decide) ?_
      refine j_sub [1, 2, 0] rfl ?_
      exact hK26 v0 v3 x8 I7 L kv0 h
set_option maxRecDepth 100000 in
def f_X11_lead (v0 : Nat) (v1 : Int32) (v2 : Int32) (v3 : Int32) (Z : jZ) (I : jI) (L : jL) (Q : jI → jL → Prop) : Prop := (∀ b9 : Nat, jr Z v0 2 = some b9 → (∀ b10 : Nat, jr Z b9 4 = some b10 → (∀ b11 : Nat, jr Z v0 6 = some b11 → (f_X4_shareInto b10 v2 b11 Z I L (fun I14 L15 => (f_X11_divide v0 v1 (720 : Int32) Z I14 L15 (fun I20 L21 => (∃ m26 : Nat, f_X11_lead_L26  Z Q m26 v0 v3 (0 : Int32) I20 L21))))))))
set_option maxHeartbeats 4000000 in
set_option maxRecDepth 100000 in
theorem c_X11_lead (l : Launch) (D : va_G) (cy : jC) (v0 : Nat) (v1 : Int32) (v2 : Int32) (v3 : Int32) (Z : jZ) (I : jI) (L : jL) (Q : jI → jL → Prop) (hZ : SH Z) (kv0 : jk Z v0 11) (h : f_X11_lead v0 v1 v2 v3 Z I L Q) : jCt l yX11_lead w_X11_lead { frames := 3, cells := 0, slots := 0, locals := 65 } D cy [.ref v0, .int v1, .int v2, .int v3] Z I L (rtV Z Q) := by
  refine jCt_of (cc := cX11_lead) (maxL := 5) (ret := none) (by decide +kernel) rfl (Nat.le_of_ble_eq_true rfl) ?_
  intro G eD eY eL E
  subst eD; subst eY; subst eL
  have E : jE G cX11_lead RX11 w_X11_lead 5 none { frames := 3, cells := 0, slots := 0, locals := 65 } (rtV Z Q) := E
  show jJ G 5 0 [(0, .ref v0), (1, .int v1), (2, .int v2), (3, .int v3)] [] Z I L 0 0
  refine j_aload_n E dX11_lead_0 0 rfl ?_
  obtain ⟨b9, eb9, kb9⟩ := sh_o hZ kv0 (j := 2) (k := 8) rfl
  have h := h b9 eb9
  refine j_getr E 11 2 rfl rfl (by decide) (by decide) (iw iT_11) rfl rfl (tw W_454) kv0 eb9 dX11_lead_1 ?_
  obtain ⟨b10, eb10, kb10⟩ := sh_o hZ kb9 (j := 4) (k := 4) rfl
  have h := h b10 eb10
  refine j_getrN E 8 4 rfl rfl (by decide) (by decide) (iw iT_8) rfl rfl (nw_8_4_X11_160) kb9 eb10 dX11_lead_4 ?_
  refine j_iload_n E dX11_lead_7 2 rfl ?_
  refine j_aload_n E dX11_lead_8 0 rfl ?_
  obtain ⟨b11, eb11, kb11, lb11⟩ := sh_f hZ kv0 (j := 6) (k := 14) (m := 8) rfl
  have h := h b11 eb11
  refine j_getr E 11 6 rfl rfl (by decide) (by decide) (iw iT_11) rfl rfl (tw W_505) kv0 eb11 dX11_lead_9 ?_
  refine j_callV E [.int v2, .ref b11] [] (c_X4_shareInto (gL G) (gD G) (gY G) b10 v2 b11 Z I L _ hZ kb10 kb11 h) (gwV W_508 W_509 W_510 W_160 W_507) rfl ⟨rfl, fy_X4_shareInto⟩ ⟨by decide, by decide⟩ (c := 4) rfl (by decide) kb10 rfl rfl (Nat.le_of_ble_eq_true rfl) ⟨Nat.zero_le _, Nat.zero_le _⟩ dX11_lead_12 (fun v12 Z13 I14 L15 q16 => ?_)
  obtain ⟨rfl, rfl, h⟩ := q16
  show jJ G 5 15 [(0, .ref v0), (1, .int v1), (2, .int v2), (3, .int v3)] [] Z I14 L15 0 0
  refine j_aload_n E dX11_lead_15 0 rfl ?_
  refine j_iload_n E dX11_lead_16 1 rfl ?_
  refine j_sipush E (v := 720) dX11_lead_17 (by decide) ?_
  refine j_callV E [.int v1, .int (720 : Int32)] [] (c_X11_divide (gL G) (gD G) (gY G) v0 v1 (720 : Int32) Z I14 L15 _ hZ kv0 h) (gwV W_512 W_513 W_514 W_40 W_511) rfl ⟨rfl, fy_X11_divide⟩ ⟨by decide, by decide⟩ (c := 11) rfl (by decide) kv0 rfl rfl (Nat.le_of_ble_eq_true rfl) ⟨Nat.zero_le _, Nat.zero_le _⟩ dX11_lead_20 (fun v18 Z19 I20 L21 q22 => ?_)
  obtain ⟨rfl, rfl, h⟩ := q22
  show jJ G 5 23 [(0, .ref v0), (1, .int v1), (2, .int v2), (3, .int v3)] [] Z I20 L21 0 0
  refine j_iconst E (v := 0) dX11_lead_23 (by decide) ?_
  refine j_istore E 4 [(4, .int (0 : Int32)), (0, .ref v0), (1, .int v1), (2, .int v2), (3, .int v3)] dX11_lead_24 (by decide) rfl ?_
  obtain ⟨n24, h⟩ := h
  refine j_sub [1, 4, 0] rfl ?_
  exact m_X11_lead_L26 E hZ  n24 v0 v3 (0 : Int32) I20 L21 kv0 h
set_option maxRecDepth 100000 in
def f_X11_payForMove_L17  (Z : jZ) (Q : jI → jL → Prop) : Nat → Nat → Nat → Int32 → Int32 → Int32 → jI → jL → Prop
  | 0 => fun _ _ _ _ _ _ _ => False
  | n + 1 => fun v0 v1 v2 v3 v4 I L => ((v2 ≤ v4 → (∀ b2 : Nat, jr Z v0 2 = some b2 → (f_X8_priceOf b2 (0 : Int32) v2 (I v1 5) v3 (I v1 3) Z I L (fun r9 I5 L6 => (f_X11_lead v0 r9 v2 (1 : Int32) Z I5 L6 (fun I12 L13 => Q I12 L13)))))) ∧ (¬ (v2 ≤ v4) → (∀ b16 : Nat, jr Z v0 2 = some b16 → (f_X8_priceOf b16 (1 : Int32) v4 (I v1 5) v3 (I v1 3) Z I L (fun r23 I19 L20 => (f_X11_lead v0 r23 v4 (1 : Int32) Z I19 L20 (fun I26 L27 => (∀ x30 : Int32, x30 = v4 + 1 → (f_X11_payForMove_L17 Z Q n) v0 v1 v2 v3 x30 I26 L27))))))))
set_option maxHeartbeats 4000000 in
set_option maxRecDepth 100000 in
theorem m_X11_payForMove_L17 {G : jG} {Z : jZ} {Q : jI → jL → Prop} (E : jE G cX11_payForMove RX11 w_X11_payForMove 5 none { frames := 4, cells := 0, slots := 0, locals := 89 } (rtV Z Q)) (hZ : SH Z)  : ∀ (n : Nat) (v0 : Nat) (v1 : Nat) (v2 : Int32) (v3 : Int32) (v4 : Int32) (I : jI) (L : jL), jk Z v0 11 → jk Z v1 5 → f_X11_payForMove_L17  Z Q n v0 v1 v2 v3 v4 I L → jJ G 5 17 [(0, .ref v0), (1, .ref v1), (2, .int v2), (3, .int v3), (4, .int v4)] [] Z I L 0 0 := by
  intro n
  induction n with
  | zero => intro v0 v1 v2 v3 v4 I L _ _ h; exact h.elim
  | succ n ih =>
    intro v0 v1 v2 v3 v4 I L kv0 kv1 h
    have h : ((v2 ≤ v4 → (∀ b2 : Nat, jr Z v0 2 = some b2 → (f_X8_priceOf b2 (0 : Int32) v2 (I v1 5) v3 (I v1 3) Z I L (fun r9 I5 L6 => (f_X11_lead v0 r9 v2 (1 : Int32) Z I5 L6 (fun I12 L13 => Q I12 L13)))))) ∧ (¬ (v2 ≤ v4) → (∀ b16 : Nat, jr Z v0 2 = some b16 → (f_X8_priceOf b16 (1 : Int32) v4 (I v1 5) v3 (I v1 3) Z I L (fun r23 I19 L20 => (f_X11_lead v0 r23 v4 (1 : Int32) Z I19 L20 (fun I26 L27 => (∀ x30 : Int32, x30 = v4 + 1 → (f_X11_payForMove_L17 Z Q n) v0 v1 v2 v3 x30 I26 L27)))))))) := h
    obtain ⟨K17, eK17⟩ : ∃ K : Nat → Nat → Int32 → Int32 → Int32 → jI → jL → Prop, K = f_X11_payForMove_L17  Z Q n := ⟨_, rfl⟩
    have hK17 := ih
    clear eK17 K17
    generalize f_X11_payForMove_L17  Z Q n = K17 at hK17 h
    refine j_iload E dX11_payForMove_17 4 rfl ?_
    refine j_iload_n E dX11_payForMove_19 2 rfl ?_
    refine j_icmp_ge E 55 dX11_payForMove_20 (by decide) (fun c1 => ?_) (fun c1 => ?_)
    · have h := h.1 c1
      refine j_aload_n E dX11_payForMove_55 0 rfl ?_
      refine j_aload_n E dX11_payForMove_56 0 rfl ?_
      obtain ⟨b2, eb2, kb2⟩ := sh_o hZ kv0 (j := 2) (k := 8) rfl
      have h := h b2 eb2
      refine j_getr E 11 2 rfl rfl (by decide) (by decide) (iw iT_11) rfl rfl (tw W_454) kv0 eb2 dX11_payForMove_57 ?_
      refine j_iconst E (v := 0) dX11_payForMove_60 (by decide) ?_
      refine j_iload_n E dX11_payForMove_61 2 rfl ?_
      refine j_aload_n E dX11_payForMove_62 1 rfl ?_
      refine j_getiN E 5 5 rfl rfl (by decide) (by decide) (iw iT_5) rfl rfl (nw_5_5_X11_201) kv1 dX11_payForMove_63 ?_
      refine j_iload_n E dX11_payForMove_66 3 rfl ?_
      refine j_aload_n E dX11_payForMove_67 1 rfl ?_
      refine j_getiN E 5 3 rfl rfl (by decide) (by decide) (iw iT_5) rfl rfl (nw_5_3_X11_213) kv1 dX11_payForMove_68 ?_
      refine j_callV E [.int (0 : Int32), .int v2, .int (I v1 5), .int v3, .int (I v1 3)] [.ref v0] (c_X8_priceOf (gL G) (gD G) (gY G) b2 (0 : Int32) v2 (I v1 5) v3 (I v1 3) Z I L _ hZ kb2 h) (gwV W_515 W_284 W_285 W_254 W_282) rfl ⟨rfl, fy_X8_priceOf⟩ ⟨by decide, by decide⟩ (c := 8) rfl (by decide) kb2 rfl rfl (Nat.le_of_ble_eq_true rfl) ⟨Nat.zero_le _, Nat.zero_le _⟩ dX11_payForMove_71 (fun v3 Z4 I5 L6 q7 => ?_)
      obtain ⟨rfl, r9, rfl, h⟩ := q7
      show jJ G 5 74 [(0, .ref v0), (1, .ref v1), (2, .int v2), (3, .int v3), (4, .int v4)] [.int r9, .ref v0] Z I5 L6 0 0
      refine j_iload_n E dX11_payForMove_74 2 rfl ?_
      refine j_iconst E (v := 1) dX11_payForMove_75 (by decide) ?_
      refine j_callV E [.int r9, .int v2, .int (1 : Int32)] [] (c_X11_lead (gL G) (gD G) (gY G) v0 r9 v2 (1 : Int32) Z I5 L6 _ hZ kv0 h) (gwV W_517 W_518 W_519 W_40 W_516) rfl ⟨rfl, fy_X11_lead⟩ ⟨by decide, by decide⟩ (c := 11) rfl (by decide) kv0 rfl rfl (Nat.le_of_ble_eq_true rfl) ⟨Nat.zero_le _, Nat.zero_le _⟩ dX11_payForMove_76 (fun v10 Z11 I12 L13 q14 => ?_)
      obtain ⟨rfl, rfl, h⟩ := q14
      show jJ G 5 79 [(0, .ref v0), (1, .ref v1), (2, .int v2), (3, .int v3), (4, .int v4)] [] Z I12 L13 0 0
      exact j_return E ⟨rfl, rfl, h⟩ (Nat.zero_le _) (Nat.zero_le _) dX11_payForMove_79
    · have h := h.2 c1
      refine j_aload_n E dX11_payForMove_23 0 rfl ?_
      refine j_aload_n E dX11_payForMove_24 0 rfl ?_
      obtain ⟨b16, eb16, kb16⟩ := sh_o hZ kv0 (j := 2) (k := 8) rfl
      have h := h b16 eb16
      refine j_getr E 11 2 rfl rfl (by decide) (by decide) (iw iT_11) rfl rfl (tw W_454) kv0 eb16 dX11_payForMove_25 ?_
      refine j_iconst E (v := 1) dX11_payForMove_28 (by decide) ?_
      refine j_iload E dX11_payForMove_29 4 rfl ?_
      refine j_aload_n E dX11_payForMove_31 1 rfl ?_
      refine j_getiN E 5 5 rfl rfl (by decide) (by decide) (iw iT_5) rfl rfl (nw_5_5_X11_201) kv1 dX11_payForMove_32 ?_
      refine j_iload_n E dX11_payForMove_35 3 rfl ?_
      refine j_aload_n E dX11_payForMove_36 1 rfl ?_
      refine j_getiN E 5 3 rfl rfl (by decide) (by decide) (iw iT_5) rfl rfl (nw_5_3_X11_213) kv1 dX11_payForMove_37 ?_
      refine j_callV E [.int (1 : Int32), .int v4, .int (I v1 5), .int v3, .int (I v1 3)] [.ref v0] (c_X8_priceOf (gL G) (gD G) (gY G) b16 (1 : Int32) v4 (I v1 5) v3 (I v1 3) Z I L _ hZ kb16 h) (gwV W_515 W_284 W_285 W_254 W_282) rfl ⟨rfl, fy_X8_priceOf⟩ ⟨by decide, by decide⟩ (c := 8) rfl (by decide) kb16 rfl rfl (Nat.le_of_ble_eq_true rfl) ⟨Nat.zero_le _, Nat.zero_le _⟩ dX11_payForMove_40 (fun v17 Z18 I19 L20 q21 => ?_)
      obtain ⟨rfl, r23, rfl, h⟩ := q21
      show jJ G 5 43 [(0, .ref v0), (1, .ref v1), (2, .int v2), (3, .int v3), (4, .int v4)] [.int r23, .ref v0] Z I19 L20 0 0
      refine j_iload E dX11_payForMove_43 4 rfl ?_
      refine j_iconst E (v := 1) dX11_payForMove_45 (by decide) ?_
      refine j_callV E [.int r23, .int v4, .int (1 : Int32)] [] (c_X11_lead (gL G) (gD G) (gY G) v0 r23 v4 (1 : Int32) Z I19 L20 _ hZ kv0 h) (gwV W_517 W_518 W_519 W_40 W_516) rfl ⟨rfl, fy_X11_lead⟩ ⟨by decide, by decide⟩ (c := 11) rfl (by decide) kv0 rfl rfl (Nat.le_of_ble_eq_true rfl) ⟨Nat.zero_le _, Nat.zero_le _⟩ dX11_payForMove_46 (fun v24 Z25 I26 L27 q28 => ?_)
      obtain ⟨rfl, rfl, h⟩ := q28
      show jJ G 5 49 [(0, .ref v0), (1, .ref v1), (2, .int v2), (3, .int v3), (4, .int v4)] [] Z I26 L27 0 0
      obtain ⟨x30, ex30⟩ : ∃ y : Int32, y = v4 + 1 := ⟨_, rfl⟩
      have h := h x30 ex30
      refine j_iinc E x30 [(4, .int x30), (0, .ref v0), (1, .ref v1), (2, .int v2), (3, .int v3)] dX11_payForMove_49 4 rfl (by rw [ex30]; rfl) (by decide) rfl ?_
      refine j_goto E 17 dX11_payForMove_52 (by decide) ?_
      refine j_sub [1, 2, 3, 4, 0] rfl ?_
      exact hK17 v0 v1 v2 v3 x30 I26 L27 kv0 kv1 h
set_option maxRecDepth 100000 in
def f_X11_payForMove (v0 : Nat) (v1 : Nat) (v2 : Int32) (Z : jZ) (I : jI) (L : jL) (Q : jI → jL → Prop) : Prop := (∀ x31 : Int32, x31 = ((v2 - (I v1 5)) - (1 : Int32)) → (∀ x32 : Int32, x32 = ((I v1 5) + (1 : Int32)) → (∃ m17 : Nat, f_X11_payForMove_L17  Z Q m17 v0 v1 v2 x31 x32 I L)))
set_option maxHeartbeats 4000000 in
set_option maxRecDepth 100000 in
theorem c_X11_payForMove (l : Launch) (D : va_G) (cy : jC) (v0 : Nat) (v1 : Nat) (v2 : Int32) (Z : jZ) (I : jI) (L : jL) (Q : jI → jL → Prop) (hZ : SH Z) (kv0 : jk Z v0 11) (kv1 : jk Z v1 5) (h : f_X11_payForMove v0 v1 v2 Z I L Q) : jCt l yX11_payForMove w_X11_payForMove { frames := 4, cells := 0, slots := 0, locals := 89 } D cy [.ref v0, .ref v1, .int v2] Z I L (rtV Z Q) := by
  refine jCt_of (cc := cX11_payForMove) (maxL := 5) (ret := none) (by decide +kernel) rfl (Nat.le_of_ble_eq_true rfl) ?_
  intro G eD eY eL E
  subst eD; subst eY; subst eL
  have E : jE G cX11_payForMove RX11 w_X11_payForMove 5 none { frames := 4, cells := 0, slots := 0, locals := 89 } (rtV Z Q) := E
  show jJ G 5 0 [(0, .ref v0), (1, .ref v1), (2, .int v2)] [] Z I L 0 0
  refine j_iload_n E dX11_payForMove_0 2 rfl ?_
  refine j_aload_n E dX11_payForMove_1 1 rfl ?_
  refine j_getiN E 5 5 rfl rfl (by decide) (by decide) (iw iT_5) rfl rfl (nw_5_5_X11_201) kv1 dX11_payForMove_2 ?_
  refine j_isub E dX11_payForMove_5 ?_
  refine j_iconst E (v := 1) dX11_payForMove_6 (by decide) ?_
  refine j_isub E dX11_payForMove_7 ?_
  refine j_topi (fun x31 ex31 => ?_)
  have h := h x31 ex31
  refine j_istore_n E 3 [(3, .int x31), (0, .ref v0), (1, .ref v1), (2, .int v2)] dX11_payForMove_8 rfl (by decide) rfl ?_
  refine j_aload_n E dX11_payForMove_9 2 rfl ?_
  refine j_getiN E 5 5 rfl rfl (by decide) (by decide) (iw iT_5) rfl rfl (nw_5_5_X11_201) kv1 dX11_payForMove_10 ?_
  refine j_iconst E (v := 1) dX11_payForMove_13 (by decide) ?_
  refine j_iadd E dX11_payForMove_14 ?_
  refine j_topi (fun x32 ex32 => ?_)
  have h := h x32 ex32
  refine j_istore E 4 [(4, .int x32), (3, .int x31), (0, .ref v0), (1, .ref v1), (2, .int v2)] dX11_payForMove_15 (by decide) rfl ?_
  obtain ⟨n33, h⟩ := h
  refine j_sub [2, 3, 4, 1, 0] rfl ?_
  exact m_X11_payForMove_L17 E hZ  n33 v0 v1 v2 x31 x32 I L kv0 kv1 h
set_option maxRecDepth 100000 in
def f_X11_tread (v0 : Nat) (v1 : Int32) (v2 : Int32) (Z : jZ) (I : jI) (L : jL) (Q : Int32 → jI → jL → Prop) : Prop := (f_X11_find v0 v1 Z I L (fun r7 I3 L4 => ((r7 = none → Q (-1 : Int32) I3 L4) ∧ (∀ b8 : Nat, r7 = some b8 → (∀ b10 : Nat, jr Z v0 2 = some b10 → (f_X8_has b10 v2 Z I3 L4 (fun r17 I13 L14 => ((¬ r17 = 0 → (f_X5_comesTo b8 v2 Z I13 L14 (fun r25 I21 L22 => ((¬ r25 = 0 → (∀ b27 : Nat, jr Z v0 2 = some b27 → (∀ b28 : Nat, jr Z b27 4 = some b28 → (f_X4_mainOf b28 v2 Z I21 L22 (fun r35 I31 L32 => (f_X5_vowsAgainst b8 r35 Z I31 L32 (fun r42 I38 L39 => ((r42 = 0 → (∀ b44 : Nat, jr Z v0 2 = some b44 → (f_X8_effortOfMove b44 (I38 b8 5) v2 (I38 b8 3) Z I38 L39 (fun r51 I47 L48 => ((r51 ≤ (I47 b8 6) → (∀ b53 : Nat, jr Z v0 2 = some b53 → (f_X8_costOfMove b53 (I47 b8 5) v2 (I47 b8 3) Z I47 L48 (fun r60 I56 L57 => ((r60 ≤ (I56 b8 7) → (f_X11_payForMove v0 b8 v2 Z I56 L57 (fun I64 L65 => (∀ I68 : jI, I68 = jpI I64 b8 6 ((I64 b8 6) - r51) → (∀ I69 : jI, I69 = jpI I68 b8 7 ((I68 b8 7) - r60) → (∀ I70 : jI, I70 = jpI I69 b8 5 v2 → Q r60 I70 L65)))))) ∧ (¬ (r60 ≤ (I56 b8 7)) → Q (-5 : Int32) I56 L57)))))) ∧ (¬ (r51 ≤ (I47 b8 6)) → Q (-4 : Int32) I47 L48)))))) ∧ (¬ (r42 = 0) → Q (-3 : Int32) I38 L39))))))))) ∧ (r25 = 0 → Q (-2 : Int32) I21 L22))))) ∧ (r17 = 0 → Q (-1 : Int32) I13 L14)))))))))
set_option maxHeartbeats 4000000 in
set_option maxRecDepth 100000 in
theorem c_X11_tread (l : Launch) (D : va_G) (cy : jC) (v0 : Nat) (v1 : Int32) (v2 : Int32) (Z : jZ) (I : jI) (L : jL) (Q : Int32 → jI → jL → Prop) (hZ : SH Z) (kv0 : jk Z v0 11) (h : f_X11_tread v0 v1 v2 Z I L Q) : jCt l yX11_tread w_X11_tread { frames := 5, cells := 0, slots := 0, locals := 113 } D cy [.ref v0, .int v1, .int v2] Z I L (rtI Z Q) := by
  refine jCt_of (cc := cX11_tread) (maxL := 6) (ret := (some .int)) (by decide +kernel) rfl (Nat.le_of_ble_eq_true rfl) ?_
  intro G eD eY eL E
  subst eD; subst eY; subst eL
  have E : jE G cX11_tread RX11 w_X11_tread 6 (some .int) { frames := 5, cells := 0, slots := 0, locals := 113 } (rtI Z Q) := E
  show jJ G 6 0 [(0, .ref v0), (1, .int v1), (2, .int v2)] [] Z I L 0 0
  refine j_aload_n E dX11_tread_0 0 rfl ?_
  refine j_iload_n E dX11_tread_1 1 rfl ?_
  refine j_callV E [.int v1] [] (c_X11_find (gL G) (gD G) (gY G) v0 v1 Z I L _ hZ kv0 h) (gwV W_437 W_438 W_439 W_40 W_436) rfl ⟨rfl, fy_X11_find⟩ ⟨by decide, by decide⟩ (c := 11) rfl (by decide) kv0 rfl rfl (Nat.le_of_ble_eq_true rfl) ⟨Nat.zero_le _, Nat.zero_le _⟩ dX11_tread_2 (fun v1 Z2 I3 L4 q5 => ?_)
  obtain ⟨rfl, r7, rfl, zr7, h⟩ := q5
  show jJ G 6 5 [(0, .ref v0), (1, .int v1), (2, .int v2)] (va_rf r7 :: []) Z I3 L4 0 0
  rcases c9 : r7 with _ | b8
  · have h := h.1 c9
    refine j_rfN rfl ?_
    refine j_astore_nN E 3 [(3, .null), (0, .ref v0), (1, .int v1), (2, .int v2)] dX11_tread_5 rfl (by decide) rfl ?_
    refine j_aload_nN E dX11_tread_6 0 rfl ?_
    refine j_ifnullN E 21 dX11_tread_7 (by decide) ?_
    refine j_iconst E (v := -1) dX11_tread_21 (by decide) ?_
    exact j_ireturn E ⟨rfl, _, rfl, h⟩ (Nat.zero_le _) (Nat.zero_le _) dX11_tread_22
  · have h := h.2 b8 c9
    have kb8 := zr7 b8 c9
    refine j_rfS rfl ?_
    refine j_astore_n E 3 [(3, .ref b8), (0, .ref v0), (1, .int v1), (2, .int v2)] dX11_tread_5 rfl (by decide) rfl ?_
    refine j_aload_n E dX11_tread_6 0 rfl ?_
    refine j_ifnull E dX11_tread_7 ?_
    refine j_aload_n E dX11_tread_10 1 rfl ?_
    obtain ⟨b10, eb10, kb10⟩ := sh_o hZ kv0 (j := 2) (k := 8) rfl
    have h := h b10 eb10
    refine j_getr E 11 2 rfl rfl (by decide) (by decide) (iw iT_11) rfl rfl (tw W_454) kv0 eb10 dX11_tread_11 ?_
    refine j_iload_n E dX11_tread_14 3 rfl ?_
    refine j_callV E [.int v2] [] (c_X8_has (gL G) (gD G) (gY G) b10 v2 Z I3 L4 _ hZ kb10 h) (gwV W_463 W_256 W_257 W_254 W_253) rfl ⟨rfl, fy_X8_has⟩ ⟨by decide, by decide⟩ (c := 8) rfl (by decide) kb10 rfl rfl (Nat.le_of_ble_eq_true rfl) ⟨Nat.zero_le _, Nat.zero_le _⟩ dX11_tread_15 (fun v11 Z12 I13 L14 q15 => ?_)
    obtain ⟨rfl, r17, rfl, zr17, h⟩ := q15
    show jJ G 6 18 [(3, .ref b8), (0, .ref v0), (1, .int v1), (2, .int v2)] [.int r17] Z I13 L14 0 0
    refine j_if_ne E 23 dX11_tread_18 (by decide) (fun c18 => ?_) (fun c18 => ?_)
    · have h := h.1 c18
      refine j_aload_n E dX11_tread_23 0 rfl ?_
      refine j_iload_n E dX11_tread_24 3 rfl ?_
      refine j_callV E [.int v2] [] (c_X5_comesTo (gL G) (gD G) (gY G) b8 v2 Z I13 L14 _ hZ kb8 h) (gwV W_496 W_497 W_498 W_441 W_495) rfl ⟨rfl, fy_X5_comesTo⟩ ⟨by decide, by decide⟩ (c := 5) rfl (by decide) kb8 rfl rfl (Nat.le_of_ble_eq_true rfl) ⟨Nat.zero_le _, Nat.zero_le _⟩ dX11_tread_25 (fun v19 Z20 I21 L22 q23 => ?_)
      obtain ⟨rfl, r25, rfl, zr25, h⟩ := q23
      show jJ G 6 28 [(3, .ref b8), (0, .ref v0), (1, .int v1), (2, .int v2)] [.int r25] Z I21 L22 0 0
      refine j_if_ne E 34 dX11_tread_28 (by decide) (fun c26 => ?_) (fun c26 => ?_)
      · have h := h.1 c26
        refine j_aload_n E dX11_tread_34 0 rfl ?_
        refine j_aload_n E dX11_tread_35 1 rfl ?_
        obtain ⟨b27, eb27, kb27⟩ := sh_o hZ kv0 (j := 2) (k := 8) rfl
        have h := h b27 eb27
        refine j_getr E 11 2 rfl rfl (by decide) (by decide) (iw iT_11) rfl rfl (tw W_454) kv0 eb27 dX11_tread_36 ?_
        obtain ⟨b28, eb28, kb28⟩ := sh_o hZ kb27 (j := 4) (k := 4) rfl
        have h := h b28 eb28
        refine j_getrN E 8 4 rfl rfl (by decide) (by decide) (iw iT_8) rfl rfl (nw_8_4_X11_160) kb27 eb28 dX11_tread_39 ?_
        refine j_iload_n E dX11_tread_42 3 rfl ?_
        refine j_callV E [.int v2] [.ref b8] (c_X4_mainOf (gL G) (gD G) (gY G) b28 v2 Z I21 L22 _ hZ kb28 h) (gwV W_464 W_265 W_266 W_160 W_263) rfl ⟨rfl, fy_X4_mainOf⟩ ⟨by decide, by decide⟩ (c := 4) rfl (by decide) kb28 rfl rfl (Nat.le_of_ble_eq_true rfl) ⟨Nat.zero_le _, Nat.zero_le _⟩ dX11_tread_43 (fun v29 Z30 I31 L32 q33 => ?_)
        obtain ⟨rfl, r35, rfl, h⟩ := q33
        show jJ G 6 46 [(3, .ref b8), (0, .ref v0), (1, .int v1), (2, .int v2)] [.int r35, .ref b8] Z I31 L32 0 0
        refine j_callV E [.int r35] [] (c_X5_vowsAgainst (gL G) (gD G) (gY G) b8 r35 Z I31 L32 _ hZ kb8 h) (gwV W_521 W_522 W_523 W_441 W_520) rfl ⟨rfl, fy_X5_vowsAgainst⟩ ⟨by decide, by decide⟩ (c := 5) rfl (by decide) kb8 rfl rfl (Nat.le_of_ble_eq_true rfl) ⟨Nat.zero_le _, Nat.zero_le _⟩ dX11_tread_46 (fun v36 Z37 I38 L39 q40 => ?_)
        obtain ⟨rfl, r42, rfl, zr42, h⟩ := q40
        show jJ G 6 49 [(3, .ref b8), (0, .ref v0), (1, .int v1), (2, .int v2)] [.int r42] Z I38 L39 0 0
        refine j_if_eq E 55 dX11_tread_49 (by decide) (fun c43 => ?_) (fun c43 => ?_)
        · have h := h.1 c43
          refine j_aload_n E dX11_tread_55 1 rfl ?_
          obtain ⟨b44, eb44, kb44⟩ := sh_o hZ kv0 (j := 2) (k := 8) rfl
          have h := h b44 eb44
          refine j_getr E 11 2 rfl rfl (by decide) (by decide) (iw iT_11) rfl rfl (tw W_454) kv0 eb44 dX11_tread_56 ?_
          refine j_aload_n E dX11_tread_59 0 rfl ?_
          refine j_getiN E 5 5 rfl rfl (by decide) (by decide) (iw iT_5) rfl rfl (nw_5_5_X11_201) kb8 dX11_tread_60 ?_
          refine j_iload_n E dX11_tread_63 3 rfl ?_
          refine j_aload_n E dX11_tread_64 0 rfl ?_
          refine j_getiN E 5 3 rfl rfl (by decide) (by decide) (iw iT_5) rfl rfl (nw_5_3_X11_213) kb8 dX11_tread_65 ?_
          refine j_callV E [.int (I38 b8 5), .int v2, .int (I38 b8 3)] [] (c_X8_effortOfMove (gL G) (gD G) (gY G) b44 (I38 b8 5) v2 (I38 b8 3) Z I38 L39 _ hZ kb44 h) (gwV W_499 W_294 W_295 W_254 W_292) rfl ⟨rfl, fy_X8_effortOfMove⟩ ⟨by decide, by decide⟩ (c := 8) rfl (by decide) kb44 rfl rfl (Nat.le_of_ble_eq_true rfl) ⟨Nat.zero_le _, Nat.zero_le _⟩ dX11_tread_68 (fun v45 Z46 I47 L48 q49 => ?_)
          obtain ⟨rfl, r51, rfl, h⟩ := q49
          show jJ G 6 71 [(3, .ref b8), (0, .ref v0), (1, .int v1), (2, .int v2)] [.int r51] Z I47 L48 0 0
          refine j_istore E 4 [(4, .int r51), (3, .ref b8), (0, .ref v0), (1, .int v1), (2, .int v2)] dX11_tread_71 (by decide) rfl ?_
          refine j_iload E dX11_tread_73 0 rfl ?_
          refine j_aload_n E dX11_tread_75 1 rfl ?_
          refine j_getiN E 5 6 rfl rfl (by decide) (by decide) (iw iT_5) rfl rfl (nw_5_6_X11_204) kb8 dX11_tread_76 ?_
          refine j_icmp_le E 85 dX11_tread_79 (by decide) (fun c52 => ?_) (fun c52 => ?_)
          · have h := h.1 c52
            refine j_aload_n E dX11_tread_85 2 rfl ?_
            obtain ⟨b53, eb53, kb53⟩ := sh_o hZ kv0 (j := 2) (k := 8) rfl
            have h := h b53 eb53
            refine j_getr E 11 2 rfl rfl (by decide) (by decide) (iw iT_11) rfl rfl (tw W_454) kv0 eb53 dX11_tread_86 ?_
            refine j_aload_n E dX11_tread_89 1 rfl ?_
            refine j_getiN E 5 5 rfl rfl (by decide) (by decide) (iw iT_5) rfl rfl (nw_5_5_X11_201) kb8 dX11_tread_90 ?_
            refine j_iload_n E dX11_tread_93 4 rfl ?_
            refine j_aload_n E dX11_tread_94 1 rfl ?_
            refine j_getiN E 5 3 rfl rfl (by decide) (by decide) (iw iT_5) rfl rfl (nw_5_3_X11_213) kb8 dX11_tread_95 ?_
            refine j_callV E [.int (I47 b8 5), .int v2, .int (I47 b8 3)] [] (c_X8_costOfMove (gL G) (gD G) (gY G) b53 (I47 b8 5) v2 (I47 b8 3) Z I47 L48 _ hZ kb53 h) (gwV W_504 W_290 W_291 W_254 W_288) rfl ⟨rfl, fy_X8_costOfMove⟩ ⟨by decide, by decide⟩ (c := 8) rfl (by decide) kb53 rfl rfl (Nat.le_of_ble_eq_true rfl) ⟨Nat.zero_le _, Nat.zero_le _⟩ dX11_tread_98 (fun v54 Z55 I56 L57 q58 => ?_)
            obtain ⟨rfl, r60, rfl, h⟩ := q58
            show jJ G 6 101 [(4, .int r51), (3, .ref b8), (0, .ref v0), (1, .int v1), (2, .int v2)] [.int r60] Z I56 L57 0 0
            refine j_istore E 5 [(5, .int r60), (4, .int r51), (3, .ref b8), (0, .ref v0), (1, .int v1), (2, .int v2)] dX11_tread_101 (by decide) rfl ?_
            refine j_iload E dX11_tread_103 0 rfl ?_
            refine j_aload_n E dX11_tread_105 2 rfl ?_
            refine j_getiN E 5 7 rfl rfl (by decide) (by decide) (iw iT_5) rfl rfl (nw_5_7_X11_207) kb8 dX11_tread_106 ?_
            refine j_icmp_le E 115 dX11_tread_109 (by decide) (fun c61 => ?_) (fun c61 => ?_)
            · have h := h.1 c61
              refine j_aload_n E dX11_tread_115 3 rfl ?_
              refine j_aload_n E dX11_tread_116 2 rfl ?_
              refine j_iload_n E dX11_tread_117 5 rfl ?_
              refine j_callV E [.ref b8, .int v2] [] (c_X11_payForMove (gL G) (gD G) (gY G) v0 b8 v2 Z I56 L57 _ hZ kv0 kb8 h) (gwV W_525 W_526 W_527 W_40 W_524) rfl ⟨rfl, fy_X11_payForMove⟩ ⟨by decide, by decide⟩ (c := 11) rfl (by decide) kv0 rfl rfl (Nat.le_of_ble_eq_true rfl) ⟨Nat.zero_le _, Nat.zero_le _⟩ dX11_tread_118 (fun v62 Z63 I64 L65 q66 => ?_)
              obtain ⟨rfl, rfl, h⟩ := q66
              show jJ G 6 121 [(5, .int r60), (4, .int r51), (3, .ref b8), (0, .ref v0), (1, .int v1), (2, .int v2)] [] Z I64 L65 0 0
              refine j_aload_n E dX11_tread_121 2 rfl ?_
              refine j_dup E dX11_tread_122 rfl ?_
              refine j_getiN E 5 6 rfl rfl (by decide) (by decide) (iw iT_5) rfl rfl (nw_5_6_X11_204) kb8 dX11_tread_123 ?_
              refine j_iload E dX11_tread_126 1 rfl ?_
              refine j_isub E dX11_tread_128 ?_
              refine j_putiN E 5 6 rfl rfl (by decide) (by decide) (iw iT_5) tyX5_ok nmX5 rfl rfl (nw_5_6_X11_204) rfl rfl rfl kb8 dX11_tread_129 ?_
              refine j_nmI (fun I68 eI68 => ?_)
              have h := h I68 eI68
              refine j_aload_n E dX11_tread_132 2 rfl ?_
              refine j_dup E dX11_tread_133 rfl ?_
              refine j_getiN E 5 7 rfl rfl (by decide) (by decide) (iw iT_5) rfl rfl (nw_5_7_X11_207) kb8 dX11_tread_134 ?_
              refine j_iload E dX11_tread_137 0 rfl ?_
              refine j_isub E dX11_tread_139 ?_
              refine j_putiN E 5 7 rfl rfl (by decide) (by decide) (iw iT_5) tyX5_ok nmX5 rfl rfl (nw_5_7_X11_207) rfl rfl rfl kb8 dX11_tread_140 ?_
              refine j_nmI (fun I69 eI69 => ?_)
              have h := h I69 eI69
              refine j_aload_n E dX11_tread_143 2 rfl ?_
              refine j_iload_n E dX11_tread_144 5 rfl ?_
              refine j_putiN E 5 5 rfl rfl (by decide) (by decide) (iw iT_5) tyX5_ok nmX5 rfl rfl (nw_5_5_X11_201) rfl rfl rfl kb8 dX11_tread_145 ?_
              refine j_nmI (fun I70 eI70 => ?_)
              have h := h I70 eI70
              refine j_iload E dX11_tread_148 0 rfl ?_
              exact j_ireturn E ⟨rfl, _, rfl, h⟩ (Nat.zero_le _) (Nat.zero_le _) dX11_tread_150
            · have h := h.2 c61
              refine j_bipush E (v := -5) dX11_tread_112 (by decide) ?_
              exact j_ireturn E ⟨rfl, _, rfl, h⟩ (Nat.zero_le _) (Nat.zero_le _) dX11_tread_114
          · have h := h.2 c52
            refine j_bipush E (v := -4) dX11_tread_82 (by decide) ?_
            exact j_ireturn E ⟨rfl, _, rfl, h⟩ (Nat.zero_le _) (Nat.zero_le _) dX11_tread_84
        · have h := h.2 c43
          refine j_bipush E (v := -3) dX11_tread_52 (by decide) ?_
          exact j_ireturn E ⟨rfl, _, rfl, h⟩ (Nat.zero_le _) (Nat.zero_le _) dX11_tread_54
      · have h := h.2 c26
        refine j_bipush E (v := -2) dX11_tread_31 (by decide) ?_
        exact j_ireturn E ⟨rfl, _, rfl, h⟩ (Nat.zero_le _) (Nat.zero_le _) dX11_tread_33
    · have h := h.2 c18
      refine j_iconst E (v := -1) dX11_tread_21 (by decide) ?_
      exact j_ireturn E ⟨rfl, _, rfl, h⟩ (Nat.zero_le _) (Nat.zero_le _) dX11_tread_22
set_option maxRecDepth 100000 in
def f_X11_rests_b83  (Z : jZ) (Q : Int32 → jI → jL → Prop) (v2 : Int32) (v3 : Nat) (v4 : Int32) (I : jI) (L : jL) : Prop := (∀ I1 : jI, I1 = jpI I v3 7 ((I v3 7) - v4) → (∀ I2 : jI, I2 = jpI I1 v3 6 (if ((I1 v3 6) + v2) < (I1 v3 0) then ((I1 v3 6) + v2) else (I1 v3 0)) → Q v4 I2 L))
set_option maxHeartbeats 4000000 in
set_option maxRecDepth 100000 in
theorem m_X11_rests_b83 {G : jG} {Z : jZ} {Q : Int32 → jI → jL → Prop} (E : jE G cX11_rests RX11 w_X11_rests 5 (some .int) { frames := 4, cells := 0, slots := 0, locals := 89 } (rtI Z Q)) (hZ : SH Z)  (v2 : Int32) (v3 : Nat) (v4 : Int32) (I : jI) (L : jL) (kv3 : jk Z v3 5) (h : f_X11_rests_b83  Z Q v2 v3 v4 I L) : jJ G 5 83 [(2, .int v2), (3, .ref v3), (4, .int v4)] [] Z I L 0 0 := by
  refine j_aload_n E dX11_rests_83 1 rfl ?_
  refine j_dup E dX11_rests_84 rfl ?_
  refine j_getiN E 5 7 rfl rfl (by decide) (by decide) (iw iT_5) rfl rfl (nw_5_7_X11_207) kv3 dX11_rests_85 ?_
  refine j_iload E dX11_rests_88 2 rfl ?_
  refine j_isub E dX11_rests_90 ?_
  refine j_putiN E 5 7 rfl rfl (by decide) (by decide) (iw iT_5) tyX5_ok nmX5 rfl rfl (nw_5_7_X11_207) rfl rfl rfl kv3 dX11_rests_91 ?_
  refine j_nmI (fun I1 eI1 => ?_)
  have h := h I1 eI1
  refine j_aload_n E dX11_rests_94 1 rfl ?_
  refine j_aload_n E dX11_rests_95 1 rfl ?_
  refine j_getiN E 5 0 rfl rfl (by decide) (by decide) (iw iT_5) rfl rfl (nw_5_0_X11_216) kv3 dX11_rests_96 ?_
  refine j_aload_n E dX11_rests_99 1 rfl ?_
  refine j_getiN E 5 6 rfl rfl (by decide) (by decide) (iw iT_5) rfl rfl (nw_5_6_X11_204) kv3 dX11_rests_100 ?_
  refine j_iload_n E dX11_rests_103 0 rfl ?_
  refine j_iadd E dX11_rests_104 ?_
  refine j_min E (tw W_467) (tw W_7) (tw W_8) (tw W_9) (Nat.le_of_ble_eq_true rfl) (Nat.le_of_ble_eq_true rfl) (Nat.zero_le _) (Nat.zero_le _) dX11_rests_105 ?_
  refine j_putiN E 5 6 rfl rfl (by decide) (by decide) (iw iT_5) tyX5_ok nmX5 rfl rfl (nw_5_6_X11_204) rfl rfl rfl kv3 dX11_rests_108 ?_
  refine j_nmI (fun I2 eI2 => ?_)
  have h := h I2 eI2
  refine j_iload E dX11_rests_111 2 rfl ?_
  exact j_ireturn E ⟨rfl, _, rfl, h⟩ (Nat.zero_le _) (Nat.zero_le _) dX11_rests_113
set_option maxRecDepth 100000 in
def f_X11_rests (v0 : Nat) (v1 : Int32) (v2 : Int32) (Z : jZ) (I : jI) (L : jL) (Q : Int32 → jI → jL → Prop) : Prop := (f_X11_find v0 v1 Z I L (fun r9 I5 L6 => ((r9 = none → Q (-1 : Int32) I5 L6) ∧ (∀ b10 : Nat, r9 = some b10 → ((v2 < (1 : Int32) → Q (-1 : Int32) I5 L6) ∧ (¬ (v2 < (1 : Int32)) → ((v2 ≤ (30 : Int32) → (∀ b14 : Nat, jr Z v0 2 = some b14 → (f_X8_priceOf b14 (0 : Int32) (I5 b10 5) (I5 b10 5) (0 : Int32) (I5 b10 3) Z I5 L6 (fun r21 I17 L18 => ((r21 ≤ (I17 b10 7) → (∀ b23 : Nat, jr Z v0 2 = some b23 → (f_X8_has b23 (I17 b10 5) Z I17 L18 (fun r30 I26 L27 => ((r30 = 0 → f_X11_rests_b83  Z Q v2 b10 r21 I26 L27) ∧ (¬ (r30 = 0) → (f_X11_lead v0 r21 (I26 b10 5) (1 : Int32) Z I26 L27 (fun I34 L35 => f_X11_rests_b83  Z Q v2 b10 r21 I34 L35)))))))) ∧ (¬ (r21 ≤ (I17 b10 7)) → Q (-5 : Int32) I17 L18)))))) ∧ (¬ (v2 ≤ (30 : Int32)) → Q (-1 : Int32) I5 L6))))))))
set_option maxHeartbeats 4000000 in
set_option maxRecDepth 100000 in
theorem c_X11_rests (l : Launch) (D : va_G) (cy : jC) (v0 : Nat) (v1 : Int32) (v2 : Int32) (Z : jZ) (I : jI) (L : jL) (Q : Int32 → jI → jL → Prop) (hZ : SH Z) (kv0 : jk Z v0 11) (h : f_X11_rests v0 v1 v2 Z I L Q) : jCt l yX11_rests w_X11_rests { frames := 4, cells := 0, slots := 0, locals := 89 } D cy [.ref v0, .int v1, .int v2] Z I L (rtI Z Q) := by
  refine jCt_of (cc := cX11_rests) (maxL := 5) (ret := (some .int)) (by decide +kernel) rfl (Nat.le_of_ble_eq_true rfl) ?_
  intro G eD eY eL E
  subst eD; subst eY; subst eL
  have E : jE G cX11_rests RX11 w_X11_rests 5 (some .int) { frames := 4, cells := 0, slots := 0, locals := 89 } (rtI Z Q) := E
  show jJ G 5 0 [(0, .ref v0), (1, .int v1), (2, .int v2)] [] Z I L 0 0
  refine j_aload_n E dX11_rests_0 0 rfl ?_
  refine j_iload_n E dX11_rests_1 1 rfl ?_
  refine j_callV E [.int v1] [] (c_X11_find (gL G) (gD G) (gY G) v0 v1 Z I L _ hZ kv0 h) (gwV W_437 W_438 W_439 W_40 W_436) rfl ⟨rfl, fy_X11_find⟩ ⟨by decide, by decide⟩ (c := 11) rfl (by decide) kv0 rfl rfl (Nat.le_of_ble_eq_true rfl) ⟨Nat.zero_le _, Nat.zero_le _⟩ dX11_rests_2 (fun v3 Z4 I5 L6 q7 => ?_)
  obtain ⟨rfl, r9, rfl, zr9, h⟩ := q7
  show jJ G 5 5 [(0, .ref v0), (1, .int v1), (2, .int v2)] (va_rf r9 :: []) Z I5 L6 0 0
  rcases c11 : r9 with _ | b10
  · have h := h.1 c11
    refine j_rfN rfl ?_
    refine j_astore_nN E 3 [(3, .null), (0, .ref v0), (1, .int v1), (2, .int v2)] dX11_rests_5 rfl (by decide) rfl ?_
    refine j_aload_nN E dX11_rests_6 0 rfl ?_
    refine j_ifnullN E 21 dX11_rests_7 (by decide) ?_
    refine j_iconst E (v := -1) dX11_rests_21 (by decide) ?_
    exact j_ireturn E ⟨rfl, _, rfl, h⟩ (Nat.zero_le _) (Nat.zero_le _) dX11_rests_22
  · have h := h.2 b10 c11
    have kb10 := zr9 b10 c11
    refine j_rfS rfl ?_
    refine j_astore_n E 3 [(3, .ref b10), (0, .ref v0), (1, .int v1), (2, .int v2)] dX11_rests_5 rfl (by decide) rfl ?_
    refine j_aload_n E dX11_rests_6 0 rfl ?_
    refine j_ifnull E dX11_rests_7 ?_
    refine j_iload_n E dX11_rests_10 3 rfl ?_
    refine j_iconst E (v := 1) dX11_rests_11 (by decide) ?_
    refine j_icmp_lt E 21 dX11_rests_12 (by decide) (fun c12 => ?_) (fun c12 => ?_)
    · have h := h.1 c12
      refine j_iconst E (v := -1) dX11_rests_21 (by decide) ?_
      exact j_ireturn E ⟨rfl, _, rfl, h⟩ (Nat.zero_le _) (Nat.zero_le _) dX11_rests_22
    · have h := h.2 c12
      refine j_iload_n E dX11_rests_15 3 rfl ?_
      refine j_bipush E (v := 30) dX11_rests_16 (by decide) ?_
      refine j_icmp_le E 23 dX11_rests_18 (by decide) (fun c13 => ?_) (fun c13 => ?_)
      · have h := h.1 c13
        refine j_aload_n E dX11_rests_23 1 rfl ?_
        obtain ⟨b14, eb14, kb14⟩ := sh_o hZ kv0 (j := 2) (k := 8) rfl
        have h := h b14 eb14
        refine j_getr E 11 2 rfl rfl (by decide) (by decide) (iw iT_11) rfl rfl (tw W_454) kv0 eb14 dX11_rests_24 ?_
        refine j_iconst E (v := 0) dX11_rests_27 (by decide) ?_
        refine j_aload_n E dX11_rests_28 0 rfl ?_
        refine j_getiN E 5 5 rfl rfl (by decide) (by decide) (iw iT_5) rfl rfl (nw_5_5_X11_201) kb10 dX11_rests_29 ?_
        refine j_aload_n E dX11_rests_32 0 rfl ?_
        refine j_getiN E 5 5 rfl rfl (by decide) (by decide) (iw iT_5) rfl rfl (nw_5_5_X11_201) kb10 dX11_rests_33 ?_
        refine j_iconst E (v := 0) dX11_rests_36 (by decide) ?_
        refine j_aload_n E dX11_rests_37 0 rfl ?_
        refine j_getiN E 5 3 rfl rfl (by decide) (by decide) (iw iT_5) rfl rfl (nw_5_3_X11_213) kb10 dX11_rests_38 ?_
        refine j_callV E [.int (0 : Int32), .int (I5 b10 5), .int (I5 b10 5), .int (0 : Int32), .int (I5 b10 3)] [] (c_X8_priceOf (gL G) (gD G) (gY G) b14 (0 : Int32) (I5 b10 5) (I5 b10 5) (0 : Int32) (I5 b10 3) Z I5 L6 _ hZ kb14 h) (gwV W_515 W_284 W_285 W_254 W_282) rfl ⟨rfl, fy_X8_priceOf⟩ ⟨by decide, by decide⟩ (c := 8) rfl (by decide) kb14 rfl rfl (Nat.le_of_ble_eq_true rfl) ⟨Nat.zero_le _, Nat.zero_le _⟩ dX11_rests_41 (fun v15 Z16 I17 L18 q19 => ?_)
        obtain ⟨rfl, r21, rfl, h⟩ := q19
        show jJ G 5 44 [(3, .ref b10), (0, .ref v0), (1, .int v1), (2, .int v2)] [.int r21] Z I17 L18 0 0
        refine j_istore E 4 [(4, .int r21), (3, .ref b10), (0, .ref v0), (1, .int v1), (2, .int v2)] dX11_rests_44 (by decide) rfl ?_
        refine j_iload E dX11_rests_46 0 rfl ?_
        refine j_aload_n E dX11_rests_48 1 rfl ?_
        refine j_getiN E 5 7 rfl rfl (by decide) (by decide) (iw iT_5) rfl rfl (nw_5_7_X11_207) kb10 dX11_rests_49 ?_
        refine j_icmp_le E 58 dX11_rests_52 (by decide) (fun c22 => ?_) (fun c22 => ?_)
        · have h := h.1 c22
          refine j_aload_n E dX11_rests_58 2 rfl ?_
          obtain ⟨b23, eb23, kb23⟩ := sh_o hZ kv0 (j := 2) (k := 8) rfl
          have h := h b23 eb23
          refine j_getr E 11 2 rfl rfl (by decide) (by decide) (iw iT_11) rfl rfl (tw W_454) kv0 eb23 dX11_rests_59 ?_
          refine j_aload_n E dX11_rests_62 1 rfl ?_
          refine j_getiN E 5 5 rfl rfl (by decide) (by decide) (iw iT_5) rfl rfl (nw_5_5_X11_201) kb10 dX11_rests_63 ?_
          refine j_callV E [.int (I17 b10 5)] [] (c_X8_has (gL G) (gD G) (gY G) b23 (I17 b10 5) Z I17 L18 _ hZ kb23 h) (gwV W_463 W_256 W_257 W_254 W_253) rfl ⟨rfl, fy_X8_has⟩ ⟨by decide, by decide⟩ (c := 8) rfl (by decide) kb23 rfl rfl (Nat.le_of_ble_eq_true rfl) ⟨Nat.zero_le _, Nat.zero_le _⟩ dX11_rests_66 (fun v24 Z25 I26 L27 q28 => ?_)
          obtain ⟨rfl, r30, rfl, zr30, h⟩ := q28
          show jJ G 5 69 [(4, .int r21), (3, .ref b10), (0, .ref v0), (1, .int v1), (2, .int v2)] [.int r30] Z I26 L27 0 0
          refine j_if_eq E 83 dX11_rests_69 (by decide) (fun c31 => ?_) (fun c31 => ?_)
          · have h := h.1 c31
            refine j_sub [4, 1, 0] rfl ?_
            exact m_X11_rests_b83 E hZ  v2 b10 r21 I26 L27 kb10 h
          · have h := h.2 c31
            refine j_aload_n E dX11_rests_72 2 rfl ?_
            refine j_iload E dX11_rests_73 0 rfl ?_
            refine j_aload_n E dX11_rests_75 1 rfl ?_
            refine j_getiN E 5 5 rfl rfl (by decide) (by decide) (iw iT_5) rfl rfl (nw_5_5_X11_201) kb10 dX11_rests_76 ?_
            refine j_iconst E (v := 1) dX11_rests_79 (by decide) ?_
            refine j_callV E [.int r21, .int (I26 b10 5), .int (1 : Int32)] [] (c_X11_lead (gL G) (gD G) (gY G) v0 r21 (I26 b10 5) (1 : Int32) Z I26 L27 _ hZ kv0 h) (gwV W_517 W_518 W_519 W_40 W_516) rfl ⟨rfl, fy_X11_lead⟩ ⟨by decide, by decide⟩ (c := 11) rfl (by decide) kv0 rfl rfl (Nat.le_of_ble_eq_true rfl) ⟨Nat.zero_le _, Nat.zero_le _⟩ dX11_rests_80 (fun v32 Z33 I34 L35 q36 => ?_)
            obtain ⟨rfl, rfl, h⟩ := q36
            show jJ G 5 83 [(4, .int r21), (3, .ref b10), (0, .ref v0), (1, .int v1), (2, .int v2)] [] Z I34 L35 0 0
            refine j_sub [4, 1, 0] rfl ?_
            exact m_X11_rests_b83 E hZ  v2 b10 r21 I34 L35 kb10 h
        · have h := h.2 c22
          refine j_bipush E (v := -5) dX11_rests_55 (by decide) ?_
          exact j_ireturn E ⟨rfl, _, rfl, h⟩ (Nat.zero_le _) (Nat.zero_le _) dX11_rests_57
      · have h := h.2 c13
        refine j_iconst E (v := -1) dX11_rests_21 (by decide) ?_
        exact j_ireturn E ⟨rfl, _, rfl, h⟩ (Nat.zero_le _) (Nat.zero_le _) dX11_rests_22
set_option maxRecDepth 100000 in
def f_X11_returns (v0 : Nat) (v1 : Int32) (Z : jZ) (I : jI) (L : jL) (Q : Int32 → jI → jL → Prop) : Prop := (f_X11_find v0 v1 Z I L (fun r7 I3 L4 => ((r7 = none → Q (-1 : Int32) I3 L4) ∧ (∀ b8 : Nat, r7 = some b8 → (∀ x10 : Int32, x10 = (I3 b8 5) → (∀ I11 : jI, I11 = jpI I3 b8 5 (-1 : Int32) → (∀ I12 : jI, I12 = jpI I11 b8 6 (I11 b8 0) → Q x10 I12 L4)))))))
set_option maxHeartbeats 4000000 in
set_option maxRecDepth 100000 in
theorem c_X11_returns (l : Launch) (D : va_G) (cy : jC) (v0 : Nat) (v1 : Int32) (Z : jZ) (I : jI) (L : jL) (Q : Int32 → jI → jL → Prop) (hZ : SH Z) (kv0 : jk Z v0 11) (h : f_X11_returns v0 v1 Z I L Q) : jCt l yX11_returns w_X11_returns { frames := 1, cells := 0, slots := 0, locals := 21 } D cy [.ref v0, .int v1] Z I L (rtI Z Q) := by
  refine jCt_of (cc := cX11_returns) (maxL := 4) (ret := (some .int)) (by decide +kernel) rfl (Nat.le_of_ble_eq_true rfl) ?_
  intro G eD eY eL E
  subst eD; subst eY; subst eL
  have E : jE G cX11_returns RX11 w_X11_returns 4 (some .int) { frames := 1, cells := 0, slots := 0, locals := 21 } (rtI Z Q) := E
  show jJ G 4 0 [(0, .ref v0), (1, .int v1)] [] Z I L 0 0
  refine j_aload_n E dX11_returns_0 0 rfl ?_
  refine j_iload_n E dX11_returns_1 1 rfl ?_
  refine j_callV E [.int v1] [] (c_X11_find (gL G) (gD G) (gY G) v0 v1 Z I L _ hZ kv0 h) (gwV W_437 W_438 W_439 W_40 W_436) rfl ⟨rfl, fy_X11_find⟩ ⟨by decide, by decide⟩ (c := 11) rfl (by decide) kv0 rfl rfl (Nat.le_of_ble_eq_true rfl) ⟨Nat.zero_le _, Nat.zero_le _⟩ dX11_returns_2 (fun v1 Z2 I3 L4 q5 => ?_)
  obtain ⟨rfl, r7, rfl, zr7, h⟩ := q5
  show jJ G 4 5 [(0, .ref v0), (1, .int v1)] (va_rf r7 :: []) Z I3 L4 0 0
  rcases c9 : r7 with _ | b8
  · have h := h.1 c9
    refine j_rfN rfl ?_
    refine j_astore_nN E 2 [(2, .null), (0, .ref v0), (1, .int v1)] dX11_returns_5 rfl (by decide) rfl ?_
    refine j_aload_nN E dX11_returns_6 0 rfl ?_
    refine j_ifnonnullN E dX11_returns_7 ?_
    refine j_iconst E (v := -1) dX11_returns_10 (by decide) ?_
    exact j_ireturn E ⟨rfl, _, rfl, h⟩ (Nat.zero_le _) (Nat.zero_le _) dX11_returns_11
  · have h := h.2 b8 c9
    have kb8 := zr7 b8 c9
    refine j_rfS rfl ?_
    refine j_astore_n E 2 [(2, .ref b8), (0, .ref v0), (1, .int v1)] dX11_returns_5 rfl (by decide) rfl ?_
    refine j_aload_n E dX11_returns_6 0 rfl ?_
    refine j_ifnonnull E 12 dX11_returns_7 (by decide) ?_
    refine j_aload_n E dX11_returns_12 0 rfl ?_
    refine j_getiN E 5 5 rfl rfl (by decide) (by decide) (iw iT_5) rfl rfl (nw_5_5_X11_201) kb8 dX11_returns_13 ?_
    refine j_topi (fun x10 ex10 => ?_)
    have h := h x10 ex10
    refine j_istore_n E 3 [(3, .int x10), (2, .ref b8), (0, .ref v0), (1, .int v1)] dX11_returns_16 rfl (by decide) rfl ?_
    refine j_aload_n E dX11_returns_17 1 rfl ?_
    refine j_iconst E (v := -1) dX11_returns_18 (by decide) ?_
    refine j_putiN E 5 5 rfl rfl (by decide) (by decide) (iw iT_5) tyX5_ok nmX5 rfl rfl (nw_5_5_X11_201) rfl rfl rfl kb8 dX11_returns_19 ?_
    refine j_nmI (fun I11 eI11 => ?_)
    have h := h I11 eI11
    refine j_aload_n E dX11_returns_22 1 rfl ?_
    refine j_aload_n E dX11_returns_23 1 rfl ?_
    refine j_getiN E 5 0 rfl rfl (by decide) (by decide) (iw iT_5) rfl rfl (nw_5_0_X11_216) kb8 dX11_returns_24 ?_
    refine j_putiN E 5 6 rfl rfl (by decide) (by decide) (iw iT_5) tyX5_ok nmX5 rfl rfl (nw_5_6_X11_204) rfl rfl rfl kb8 dX11_returns_27 ?_
    refine j_nmI (fun I12 eI12 => ?_)
    have h := h I12 eI12
    refine j_iload_n E dX11_returns_30 0 rfl ?_
    exact j_ireturn E ⟨rfl, _, rfl, h⟩ (Nat.zero_le _) (Nat.zero_le _) dX11_returns_31
set_option maxRecDepth 100000 in
def f_X11_earned (v0 : Nat) (v1 : Int32) (Z : jZ) (I : jI) (L : jL) (Q : Int32 → jI → jL → Prop) : Prop := (f_X11_isFamily v1 Z I L (fun r7 I3 L4 => ((¬ r7 = 0 → (∀ b9 : Nat, jr Z v0 2 = some b9 → (∀ b10 : Nat, jr Z b9 4 = some b10 → (f_X4_sumOf b10 v1 Z I3 L4 (fun r17 I13 L14 => (f_X11_tellOne v0 (r17.toInt64) Z I13 L14 (fun I20 L21 => (∀ b24 : Nat, jr Z v0 5 = some b24 → (vp_in v1 8 ∧ Q (I20 b24 v1.toNatClampNeg) I20 L21))))))))) ∧ (r7 = 0 → Q (-1 : Int32) I3 L4))))
set_option maxHeartbeats 4000000 in
set_option maxRecDepth 100000 in
theorem c_X11_earned (l : Launch) (D : va_G) (cy : jC) (v0 : Nat) (v1 : Int32) (Z : jZ) (I : jI) (L : jL) (Q : Int32 → jI → jL → Prop) (hZ : SH Z) (kv0 : jk Z v0 11) (h : f_X11_earned v0 v1 Z I L Q) : jCt l yX11_earned w_X11_earned { frames := 3, cells := 0, slots := 0, locals := 65 } D cy [.ref v0, .int v1] Z I L (rtI Z Q) := by
  refine jCt_of (cc := cX11_earned) (maxL := 2) (ret := (some .int)) (by decide +kernel) rfl (Nat.le_of_ble_eq_true rfl) ?_
  intro G eD eY eL E
  subst eD; subst eY; subst eL
  have E : jE G cX11_earned RX11 w_X11_earned 2 (some .int) { frames := 3, cells := 0, slots := 0, locals := 65 } (rtI Z Q) := E
  show jJ G 2 0 [(0, .ref v0), (1, .int v1)] [] Z I L 0 0
  refine j_iload_n E dX11_earned_0 1 rfl ?_
  refine j_callS E [.int v1] [] (c_X11_isFamily (gL G) (gD G) (gY G) v1 Z I L _ hZ  h) (gwS W_476 W_220 W_40 W_219) rfl fy_X11_isFamily ⟨by decide, by decide⟩ rfl rfl (Nat.le_of_ble_eq_true rfl) ⟨Nat.zero_le _, Nat.zero_le _⟩ dX11_earned_1 (fun v1 Z2 I3 L4 q5 => ?_)
  obtain ⟨rfl, r7, rfl, zr7, h⟩ := q5
  show jJ G 2 4 [(0, .ref v0), (1, .int v1)] [.int r7] Z I3 L4 0 0
  refine j_if_ne E 9 dX11_earned_4 (by decide) (fun c8 => ?_) (fun c8 => ?_)
  · have h := h.1 c8
    refine j_aload_n E dX11_earned_9 0 rfl ?_
    refine j_aload_n E dX11_earned_10 0 rfl ?_
    obtain ⟨b9, eb9, kb9⟩ := sh_o hZ kv0 (j := 2) (k := 8) rfl
    have h := h b9 eb9
    refine j_getr E 11 2 rfl rfl (by decide) (by decide) (iw iT_11) rfl rfl (tw W_454) kv0 eb9 dX11_earned_11 ?_
    obtain ⟨b10, eb10, kb10⟩ := sh_o hZ kb9 (j := 4) (k := 4) rfl
    have h := h b10 eb10
    refine j_getrN E 8 4 rfl rfl (by decide) (by decide) (iw iT_8) rfl rfl (nw_8_4_X11_160) kb9 eb10 dX11_earned_14 ?_
    refine j_iload_n E dX11_earned_17 1 rfl ?_
    refine j_callV E [.int v1] [.ref v0] (c_X4_sumOf (gL G) (gD G) (gY G) b10 v1 Z I3 L4 _ hZ kb10 h) (gwV W_528 W_228 W_229 W_160 W_226) rfl ⟨rfl, fy_X4_sumOf⟩ ⟨by decide, by decide⟩ (c := 4) rfl (by decide) kb10 rfl rfl (Nat.le_of_ble_eq_true rfl) ⟨Nat.zero_le _, Nat.zero_le _⟩ dX11_earned_18 (fun v11 Z12 I13 L14 q15 => ?_)
    obtain ⟨rfl, r17, rfl, h⟩ := q15
    show jJ G 2 21 [(0, .ref v0), (1, .int v1)] [.int r17, .ref v0] Z I13 L14 0 0
    refine j_i2l E dX11_earned_21 ?_
    refine j_callV E [.long (r17.toInt64)] [] (c_X11_tellOne (gL G) (gD G) (gY G) v0 (r17.toInt64) Z I13 L14 _ hZ kv0 h) (gwV W_492 W_493 W_494 W_40 W_491) rfl ⟨rfl, fy_X11_tellOne⟩ ⟨by decide, by decide⟩ (c := 11) rfl (by decide) kv0 rfl rfl (Nat.le_of_ble_eq_true rfl) ⟨Nat.zero_le _, Nat.zero_le _⟩ dX11_earned_22 (fun v18 Z19 I20 L21 q22 => ?_)
    obtain ⟨rfl, rfl, h⟩ := q22
    show jJ G 2 25 [(0, .ref v0), (1, .int v1)] [] Z I20 L21 0 0
    refine j_aload_n E dX11_earned_25 0 rfl ?_
    obtain ⟨b24, eb24, kb24, lb24⟩ := sh_f hZ kv0 (j := 5) (k := 14) (m := 8) rfl
    have h := h b24 eb24
    refine j_getr E 11 5 rfl rfl (by decide) (by decide) (iw iT_11) rfl rfl (tw W_434) kv0 eb24 dX11_earned_26 ?_
    refine j_iload_n E dX11_earned_29 1 rfl ?_
    obtain ⟨o25, h⟩ := h
    refine j_iald E kb24 (by rw [lb24]; exact o25) dX11_earned_30 ?_
    exact j_ireturn E ⟨rfl, _, rfl, h⟩ (Nat.zero_le _) (Nat.zero_le _) dX11_earned_31
  · have h := h.2 c8
    refine j_iconst E (v := -1) dX11_earned_7 (by decide) ?_
    exact j_ireturn E ⟨rfl, _, rfl, h⟩ (Nat.zero_le _) (Nat.zero_le _) dX11_earned_8
set_option maxRecDepth 100000 in
def f_X11_movesIn (v0 : Int64) (Z : jZ) (I : jI) (L : jL) (Q : Int32 → jI → jL → Prop) : Prop := Q ((((v0.toUInt64 >>> ((24 : Int32).toInt64.toUInt64 &&& Int64.toUInt64 63)).toInt64).toInt32) &&& (31 : Int32)) I L
set_option maxHeartbeats 4000000 in
set_option maxRecDepth 100000 in
theorem c_X11_movesIn (l : Launch) (D : va_G) (cy : jC) (v0 : Int64) (Z : jZ) (I : jI) (L : jL) (Q : Int32 → jI → jL → Prop) (hZ : SH Z)  (h : f_X11_movesIn v0 Z I L Q) : jCt l yX11_movesIn w_X11_movesIn { frames := 0, cells := 0, slots := 0, locals := 0 } D cy [.long v0] Z I L (rtI Z Q) := by
  refine jCt_of (cc := cX11_movesIn) (maxL := 2) (ret := (some .int)) (by decide +kernel) rfl (Nat.le_of_ble_eq_true rfl) ?_
  intro G eD eY eL E
  subst eD; subst eY; subst eL
  have E : jE G cX11_movesIn RX11 w_X11_movesIn 2 (some .int) { frames := 0, cells := 0, slots := 0, locals := 0 } (rtI Z Q) := E
  show jJ G 2 0 [(0, .long v0)] [] Z I L 0 0
  refine j_lload_n E dX11_movesIn_0 0 rfl ?_
  refine j_bipush E (v := 24) dX11_movesIn_1 (by decide) ?_
  refine j_lushr E dX11_movesIn_3 ?_
  refine j_l2i E dX11_movesIn_4 ?_
  refine j_bipush E (v := 31) dX11_movesIn_5 (by decide) ?_
  refine j_iand E dX11_movesIn_7 ?_
  exact j_ireturn E ⟨rfl, _, rfl, h⟩ (Nat.zero_le _) (Nat.zero_le _) dX11_movesIn_8
set_option maxRecDepth 100000 in
def f_X11_climb_b102 (B : Nat × Nat) (K74 : Nat → Int64 → Int32 → jZ → jI → jL → Prop) (Q : Int32 → jZ → jI → jL → Prop) (v0 : Nat) (v3 : Int64) (v5 : Int32) (Z : jZ) (I : jI) (L : jL) : Prop := (∀ x1 : Int32, x1 = v5 + 1 → K74 v0 v3 x1 Z I L)
set_option maxHeartbeats 4000000 in
set_option maxRecDepth 100000 in
theorem m_X11_climb_b102 {G : jG} {B : Nat × Nat} {Z0 : jZ} {Q : Int32 → jZ → jI → jL → Prop} (E : jE G cX11_climb RX11 w_X11_climb 6 (some .int) (jrm B 7 183 Z0) jRF) (EU : jEU G B Z0 (urtI B Z0 Q)) (K74 : Nat → Int64 → Int32 → jZ → jI → jL → Prop) (hK74 : ∀ (v0 : Nat) (v3 : Int64) (v5 : Int32) (Z : jZ) (I : jI) (L : jL), SH Z → jext Z0 Z → jle Z0 Z → jin B Z → jk Z v0 11 → K74 v0 v3 v5 Z I L → jJ G 6 74 [(0, .ref v0), (3, .long v3), (5, .int v5)] [] Z I L (jcz Z - jcz Z0) (jsz Z - jsz Z0)) (v0 : Nat) (v3 : Int64) (v5 : Int32) (Z : jZ) (I : jI) (L : jL) (hZ : SH Z) (hx : jext Z0 Z) (hc : jle Z0 Z) (hb : jin B Z) (kv0 : jk Z v0 11) (h : f_X11_climb_b102 B K74 Q v0 v3 v5 Z I L) : jJ G 6 102 [(0, .ref v0), (3, .long v3), (5, .int v5)] [] Z I L (jcz Z - jcz Z0) (jsz Z - jsz Z0) := by
  obtain ⟨x1, ex1⟩ : ∃ y : Int32, y = v5 + 1 := ⟨_, rfl⟩
  have h := h x1 ex1
  refine j_iinc E x1 [(5, .int x1), (0, .ref v0), (3, .long v3)] dX11_climb_102 2 rfl (by rw [ex1]; rfl) (by decide) rfl ?_
  refine j_goto E 74 dX11_climb_105 (by decide) ?_
  refine j_sub [1, 2, 0] rfl ?_
  exact hK74 v0 v3 x1 Z I L hZ hx hc hb kv0 h
set_option maxRecDepth 100000 in
def f_X11_climb_L74 (B : Nat × Nat)  (Q : Int32 → jZ → jI → jL → Prop) : Nat → Nat → Int64 → Int32 → jZ → jI → jL → Prop
  | 0 => fun _ _ _ _ _ _ => False
  | n + 1 => fun v0 v3 v5 Z I L => (∀ b2 : Nat, jr Z v0 2 = some b2 → (((I b2 9) ≤ v5 → (f_X11_costIn v3 Z I L (fun r10 I6 L7 => Q r10 Z I6 L7))) ∧ (¬ ((I b2 9) ≤ v5) → (f_X11_treads v3 v5 Z I L (fun r17 I13 L14 => ((r17 = 0 → f_X11_climb_b102 B (f_X11_climb_L74 B Q n) Q v0 v3 v5 Z I13 L14) ∧ (¬ (r17 = 0) → (f_X11_tellMore v0 (v5.toInt64) Z I13 L14 (fun I21 L22 => f_X11_climb_b102 B (f_X11_climb_L74 B Q n) Q v0 v3 v5 Z I21 L22)))))))))
set_option maxHeartbeats 4000000 in
set_option maxRecDepth 100000 in
theorem m_X11_climb_L74 {G : jG} {Z0 : jZ} {B : Nat × Nat} {Q : Int32 → jZ → jI → jL → Prop} (E : jE G cX11_climb RX11 w_X11_climb 6 (some .int) (jrm B 7 183 Z0) jRF) (EU : jEU G B Z0 (urtI B Z0 Q))  : ∀ (n : Nat) (v0 : Nat) (v3 : Int64) (v5 : Int32) (Z : jZ) (I : jI) (L : jL), SH Z → jext Z0 Z → jle Z0 Z → jin B Z → jk Z v0 11 → f_X11_climb_L74 B  Q n v0 v3 v5 Z I L → jJ G 6 74 [(0, .ref v0), (3, .long v3), (5, .int v5)] [] Z I L (jcz Z - jcz Z0) (jsz Z - jsz Z0) := by
  intro n
  induction n with
  | zero => intro v0 v3 v5 Z I L _ _ _ _ _ h; exact h.elim
  | succ n ih =>
    intro v0 v3 v5 Z I L hZ hx hc hb kv0 h
    have h : (∀ b2 : Nat, jr Z v0 2 = some b2 → (((I b2 9) ≤ v5 → (f_X11_costIn v3 Z I L (fun r10 I6 L7 => Q r10 Z I6 L7))) ∧ (¬ ((I b2 9) ≤ v5) → (f_X11_treads v3 v5 Z I L (fun r17 I13 L14 => ((r17 = 0 → f_X11_climb_b102 B (f_X11_climb_L74 B Q n) Q v0 v3 v5 Z I13 L14) ∧ (¬ (r17 = 0) → (f_X11_tellMore v0 (v5.toInt64) Z I13 L14 (fun I21 L22 => f_X11_climb_b102 B (f_X11_climb_L74 B Q n) Q v0 v3 v5 Z I21 L22))))))))) := h
    obtain ⟨K74, eK74⟩ : ∃ K : Nat → Int64 → Int32 → jZ → jI → jL → Prop, K = f_X11_climb_L74 B  Q n := ⟨_, rfl⟩
    have hK74 := ih
    clear eK74 K74
    generalize f_X11_climb_L74 B  Q n = K74 at hK74 h
    refine j_iload E dX11_climb_74 2 rfl ?_
    refine j_aload_n E dX11_climb_76 0 rfl ?_
    obtain ⟨b2, eb2, kb2⟩ := sh_o hZ kv0 (j := 2) (k := 8) rfl
    have h := h b2 eb2
    refine j_getr E 11 2 rfl rfl (by decide) (by decide) (iw iT_11) rfl rfl (tw W_454) kv0 eb2 dX11_climb_77 ?_
    refine j_getiN E 8 9 rfl rfl (by decide) (by decide) (iw iT_8) rfl rfl (nw_8_9_X11_172) kb2 dX11_climb_80 ?_
    refine j_icmp_ge E 108 dX11_climb_83 (by decide) (fun c3 => ?_) (fun c3 => ?_)
    · have h := h.1 c3
      refine j_lload_n E dX11_climb_108 1 rfl ?_
      refine j_callS E [.long v3] [] (c_X11_costIn (gL G) (gD G) (gY G) v3 Z I L _ hZ  h) (gwS W_529 W_67 W_40 W_66) rfl fy_X11_costIn ⟨Nat.le_of_ble_eq_true rfl, Nat.le_of_ble_eq_true rfl⟩ rfl rfl (Nat.le_of_ble_eq_true rfl) (ju_kn hb) dX11_climb_109 (fun v4 Z5 I6 L7 q8 => ?_)
      obtain ⟨rfl, r10, rfl, h⟩ := q8
      show jJ G 6 112 [(0, .ref v0), (3, .long v3), (5, .int v5)] [.int r10] Z I6 L7 (jcz Z - jcz Z0) (jsz Z - jsz Z0)
      exact ju_ireturn E EU hc hb ⟨hx, hZ, hb, _, rfl, h⟩ dX11_climb_112
    · have h := h.2 c3
      refine j_lload_n E dX11_climb_86 1 rfl ?_
      refine j_iload E dX11_climb_87 2 rfl ?_
      refine j_callS E [.long v3, .int v5] [] (c_X11_treads (gL G) (gD G) (gY G) v3 v5 Z I L _ hZ  h) (gwS W_530 W_140 W_40 W_139) rfl fy_X11_treads ⟨Nat.le_of_ble_eq_true rfl, Nat.le_of_ble_eq_true rfl⟩ rfl rfl (Nat.le_of_ble_eq_true rfl) (ju_kn hb) dX11_climb_89 (fun v11 Z12 I13 L14 q15 => ?_)
      obtain ⟨rfl, r17, rfl, zr17, h⟩ := q15
      show jJ G 6 92 [(0, .ref v0), (3, .long v3), (5, .int v5)] [.int r17] Z I13 L14 (jcz Z - jcz Z0) (jsz Z - jsz Z0)
      refine j_if_eq E 102 dX11_climb_92 (by decide) (fun c18 => ?_) (fun c18 => ?_)
      · have h := h.1 c18
        refine j_sub [0, 1, 2] rfl ?_
        exact m_X11_climb_b102 E EU K74 hK74 v0 v3 v5 Z I13 L14 hZ hx hc hb kv0 h
      · have h := h.2 c18
        refine j_aload_n E dX11_climb_95 0 rfl ?_
        refine j_iload E dX11_climb_96 2 rfl ?_
        refine j_i2l E dX11_climb_98 ?_
        refine j_callV E [.long (v5.toInt64)] [] (c_X11_tellMore (gL G) (gD G) (gY G) v0 (v5.toInt64) Z I13 L14 _ hZ kv0 h) (gwV W_488 W_489 W_490 W_40 W_487) rfl ⟨rfl, fy_X11_tellMore⟩ ⟨Nat.le_of_ble_eq_true rfl, Nat.le_of_ble_eq_true rfl⟩ (c := 11) rfl (by decide) kv0 rfl rfl (Nat.le_of_ble_eq_true rfl) (ju_kn hb) dX11_climb_99 (fun v19 Z20 I21 L22 q23 => ?_)
        obtain ⟨rfl, rfl, h⟩ := q23
        show jJ G 6 102 [(0, .ref v0), (3, .long v3), (5, .int v5)] [] Z I21 L22 (jcz Z - jcz Z0) (jsz Z - jsz Z0)
        refine j_sub [0, 1, 2] rfl ?_
        exact m_X11_climb_b102 E EU K74 hK74 v0 v3 v5 Z I21 L22 hZ hx hc hb kv0 h
set_option maxRecDepth 100000 in
def f_X11_climb (B : Nat × Nat) (v0 : Nat) (v1 : Int32) (Z : jZ) (I : jI) (L : jL) (Q : Int32 → jZ → jI → jL → Prop) : Prop := (f_X11_find v0 v1 Z I L (fun r31 I27 L28 => ((r31 = none → Q (-1 : Int32) Z I27 L28) ∧ (∀ b32 : Nat, r31 = some b32 → (∀ b34 : Nat, jr Z v0 2 = some b34 → ((¬ (I27 b34 9) = 0 → (∀ b36 : Nat, jr Z b32 8 = some b36 → (f_X6_lay b36 (I27 b32 3) (I27 b32 4) (-1 : Int32) Z I27 L28 (fun I39 L40 => (∀ b43 : Nat, jr Z b32 8 = some b43 → (f_X6_cheapest B b43 Z I39 L40 (fun r50 Z45 I46 L47 => ((¬ (lg_cmp r50 (9223372036854775807 : Int64)) = 0 → (f_X11_effortIn r50 Z45 I46 L47 (fun r60 I56 L57 => (f_X11_movesIn r50 Z45 I56 L57 (fun r67 I63 L64 => (f_X11_tellTwo v0 (r60.toInt64) (r67.toInt64) Z45 I63 L64 (fun I70 L71 => (∃ m74 : Nat, f_X11_climb_L74 B  Q m74 v0 r50 (0 : Int32) Z45 I70 L71)))))))) ∧ ((lg_cmp r50 (9223372036854775807 : Int64)) = 0 → Q (-2 : Int32) Z45 I46 L47))))))))) ∧ ((I27 b34 9) = 0 → Q (-1 : Int32) Z I27 L28)))))))
set_option maxHeartbeats 4000000 in
set_option maxRecDepth 100000 in
theorem c_X11_climb (l : Launch) (D : va_G) (cy : jC) (B : Nat × Nat) (v0 : Nat) (v1 : Int32) (Z : jZ) (I : jI) (L : jL) (Q : Int32 → jZ → jI → jL → Prop) (hZ : SH Z) (hb : jin B Z) (kv0 : jk Z v0 11) (h : f_X11_climb B v0 v1 Z I L Q) : jCtU l yX11_climb w_X11_climb B 7 183 D cy [.ref v0, .int v1] Z I L (urtI B Z Q) := by
  refine jCtU_of (cc := cX11_climb) (maxL := 6) (ret := (some .int)) (by decide +kernel) rfl (Nat.le_of_ble_eq_true rfl) ?_
  intro G eD eY eL E EU
  subst eD; subst eY; subst eL
  have E : jE G cX11_climb RX11 w_X11_climb 6 (some .int) (jrm B 7 183 Z) jRF := E
  have hx : jext Z Z := jext_rfl
  have hc : jle Z Z := jle_rfl
  show jJ G 6 0 [(0, .ref v0), (1, .int v1)] [] Z I L (jcz Z - jcz Z) (jsz Z - jsz Z)
  refine j_aload_n E dX11_climb_0 0 rfl ?_
  refine j_iload_n E dX11_climb_1 1 rfl ?_
  refine j_callV E [.int v1] [] (c_X11_find (gL G) (gD G) (gY G) v0 v1 Z I L _ hZ kv0 h) (gwV W_437 W_438 W_439 W_40 W_436) rfl ⟨rfl, fy_X11_find⟩ ⟨Nat.le_of_ble_eq_true rfl, Nat.le_of_ble_eq_true rfl⟩ (c := 11) rfl (by decide) kv0 rfl rfl (Nat.le_of_ble_eq_true rfl) (ju_kn hb) dX11_climb_2 (fun v25 Z26 I27 L28 q29 => ?_)
  obtain ⟨rfl, r31, rfl, zr31, h⟩ := q29
  show jJ G 6 5 [(0, .ref v0), (1, .int v1)] (va_rf r31 :: []) Z I27 L28 (jcz Z - jcz Z) (jsz Z - jsz Z)
  rcases c33 : r31 with _ | b32
  · have h := h.1 c33
    refine j_rfN rfl ?_
    refine j_astore_nN E 2 [(2, .null), (0, .ref v0), (1, .int v1)] dX11_climb_5 rfl (by decide) rfl ?_
    refine j_aload_nN E dX11_climb_6 0 rfl ?_
    refine j_ifnullN E 20 dX11_climb_7 (by decide) ?_
    refine j_iconst E (v := -1) dX11_climb_20 (by decide) ?_
    exact ju_ireturn E EU hc hb ⟨hx, hZ, hb, _, rfl, h⟩ dX11_climb_21
  · have h := h.2 b32 c33
    have kb32 := zr31 b32 c33
    refine j_rfS rfl ?_
    refine j_astore_n E 2 [(2, .ref b32), (0, .ref v0), (1, .int v1)] dX11_climb_5 rfl (by decide) rfl ?_
    refine j_aload_n E dX11_climb_6 0 rfl ?_
    refine j_ifnull E dX11_climb_7 ?_
    refine j_aload_n E dX11_climb_10 1 rfl ?_
    obtain ⟨b34, eb34, kb34⟩ := sh_o hZ kv0 (j := 2) (k := 8) rfl
    have h := h b34 eb34
    refine j_getr E 11 2 rfl rfl (by decide) (by decide) (iw iT_11) rfl rfl (tw W_454) kv0 eb34 dX11_climb_11 ?_
    refine j_getiN E 8 9 rfl rfl (by decide) (by decide) (iw iT_8) rfl rfl (nw_8_9_X11_172) kb34 dX11_climb_14 ?_
    refine j_if_ne E 22 dX11_climb_17 (by decide) (fun c35 => ?_) (fun c35 => ?_)
    · have h := h.1 c35
      refine j_aload_n E dX11_climb_22 0 rfl ?_
      obtain ⟨b36, eb36, kb36⟩ := sh_o hZ kb32 (j := 8) (k := 6) rfl
      have h := h b36 eb36
      refine j_getrN E 5 8 rfl rfl (by decide) (by decide) (iw iT_5) rfl rfl (nw_5_8_X11_263) kb32 eb36 dX11_climb_23 ?_
      refine j_aload_n E dX11_climb_26 0 rfl ?_
      refine j_getiN E 5 3 rfl rfl (by decide) (by decide) (iw iT_5) rfl rfl (nw_5_3_X11_213) kb32 dX11_climb_27 ?_
      refine j_aload_n E dX11_climb_30 0 rfl ?_
      refine j_getiN E 5 4 rfl rfl (by decide) (by decide) (iw iT_5) rfl rfl (nw_5_4_X11_196) kb32 dX11_climb_31 ?_
      refine j_iconst E (v := -1) dX11_climb_34 (by decide) ?_
      refine j_callV E [.int (I27 b32 3), .int (I27 b32 4), .int (-1 : Int32)] [] (c_X6_lay (gL G) (gD G) (gY G) b36 (I27 b32 3) (I27 b32 4) (-1 : Int32) Z I27 L28 _ hZ kb36 h) (gwV W_532 W_533 W_534 W_33 W_531) rfl ⟨rfl, fy_X6_lay⟩ ⟨Nat.le_of_ble_eq_true rfl, Nat.le_of_ble_eq_true rfl⟩ (c := 6) rfl (by decide) kb36 rfl rfl (Nat.le_of_ble_eq_true rfl) (ju_kn hb) dX11_climb_35 (fun v37 Z38 I39 L40 q41 => ?_)
      obtain ⟨rfl, rfl, h⟩ := q41
      show jJ G 6 38 [(2, .ref b32), (0, .ref v0), (1, .int v1)] [] Z I39 L40 (jcz Z - jcz Z) (jsz Z - jsz Z)
      refine j_aload_n E dX11_climb_38 0 rfl ?_
      obtain ⟨b43, eb43, kb43⟩ := sh_o hZ kb32 (j := 8) (k := 6) rfl
      have h := h b43 eb43
      refine j_getrN E 5 8 rfl rfl (by decide) (by decide) (iw iT_5) rfl rfl (nw_5_8_X11_263) kb32 eb43 dX11_climb_39 ?_
      refine ju_callV E [] [] (c_X6_cheapest (gL G) (gD G) (gY G) B b43 Z I39 L40 _ hZ hb kb43 h) (gwV W_536 W_537 W_538 W_33 W_535) rfl ⟨rfl, fy_X6_cheapest⟩ ⟨Nat.le_of_ble_eq_true rfl, Nat.le_of_ble_eq_true rfl⟩ (c := 6) rfl (by decide) kb43 rfl rfl (Nat.le_of_ble_eq_true rfl) (ju_f hc hb) dX11_climb_42 (fun v44 Z45 I46 L47 q48 j49 => ?_)
      refine ju_next hc j49 ?_
      have hc := jle_trans hc j49
      obtain ⟨yZ45, hZ45, hbZ45, r50, rfl, h⟩ := q48
      have hZ := hZ45
      have hx : jext Z Z45 := jext_trans hx yZ45
      have hb := hbZ45
      have k51 := (yZ45 _ _ kv0).1
      have k52 := (yZ45 _ _ kb32).1
      show jJ G 6 45 [(2, .ref b32), (0, .ref v0), (1, .int v1)] [.long r50] Z45 I46 L47 (jcz Z45 - jcz Z) (jsz Z45 - jsz Z)
      refine j_lstore_n E 3 [(3, .long r50), (2, .ref b32), (0, .ref v0), (1, .int v1)] dX11_climb_45 rfl (by decide) rfl ?_
      refine j_lload_n E dX11_climb_46 0 rfl ?_
      refine j_ldc2 E (tw W_539) dX11_climb_47 ?_
      refine j_lcmp E dX11_climb_50 ?_
      refine j_if_ne E 57 dX11_climb_51 (by decide) (fun c53 => ?_) (fun c53 => ?_)
      · have h := h.1 c53
        refine j_aload_n E dX11_climb_57 2 rfl ?_
        refine j_lload_n E dX11_climb_58 0 rfl ?_
        refine j_callS E [.long r50] [.ref v0] (c_X11_effortIn (gL G) (gD G) (gY G) r50 Z45 I46 L47 _ hZ  h) (gwS W_540 W_69 W_40 W_68) rfl fy_X11_effortIn ⟨Nat.le_of_ble_eq_true rfl, Nat.le_of_ble_eq_true rfl⟩ rfl rfl (Nat.le_of_ble_eq_true rfl) (ju_kn hb) dX11_climb_59 (fun v54 Z55 I56 L57 q58 => ?_)
        obtain ⟨rfl, r60, rfl, h⟩ := q58
        show jJ G 6 62 [(3, .long r50), (2, .ref b32), (0, .ref v0), (1, .int v1)] [.int r60, .ref v0] Z45 I56 L57 (jcz Z45 - jcz Z) (jsz Z45 - jsz Z)
        refine j_i2l E dX11_climb_62 ?_
        refine j_lload_n E dX11_climb_63 0 rfl ?_
        refine j_callS E [.long r50] [.long (r60.toInt64), .ref v0] (c_X11_movesIn (gL G) (gD G) (gY G) r50 Z45 I56 L57 _ hZ  h) (gwS W_542 W_543 W_40 W_541) rfl fy_X11_movesIn ⟨Nat.le_of_ble_eq_true rfl, Nat.le_of_ble_eq_true rfl⟩ rfl rfl (Nat.le_of_ble_eq_true rfl) (ju_kn hb) dX11_climb_64 (fun v61 Z62 I63 L64 q65 => ?_)
        obtain ⟨rfl, r67, rfl, h⟩ := q65
        show jJ G 6 67 [(3, .long r50), (2, .ref b32), (0, .ref v0), (1, .int v1)] [.int r67, .long (r60.toInt64), .ref v0] Z45 I63 L64 (jcz Z45 - jcz Z) (jsz Z45 - jsz Z)
        refine j_i2l E dX11_climb_67 ?_
        refine j_callV E [.long (r60.toInt64), .long (r67.toInt64)] [] (c_X11_tellTwo (gL G) (gD G) (gY G) v0 (r60.toInt64) (r67.toInt64) Z45 I63 L64 _ hZ k51 h) (gwV W_501 W_502 W_503 W_40 W_500) rfl ⟨rfl, fy_X11_tellTwo⟩ ⟨Nat.le_of_ble_eq_true rfl, Nat.le_of_ble_eq_true rfl⟩ (c := 11) rfl (by decide) k51 rfl rfl (Nat.le_of_ble_eq_true rfl) (ju_kn hb) dX11_climb_68 (fun v68 Z69 I70 L71 q72 => ?_)
        obtain ⟨rfl, rfl, h⟩ := q72
        show jJ G 6 71 [(3, .long r50), (2, .ref b32), (0, .ref v0), (1, .int v1)] [] Z45 I70 L71 (jcz Z45 - jcz Z) (jsz Z45 - jsz Z)
        refine j_iconst E (v := 0) dX11_climb_71 (by decide) ?_
        refine j_istore E 5 [(5, .int (0 : Int32)), (3, .long r50), (2, .ref b32), (0, .ref v0), (1, .int v1)] dX11_climb_72 (by decide) rfl ?_
        obtain ⟨n74, h⟩ := h
        refine j_sub [3, 1, 0] rfl ?_
        exact m_X11_climb_L74 E EU  n74 v0 r50 (0 : Int32) Z45 I70 L71 hZ hx hc hb k51 h
      · have h := h.2 c53
        refine j_bipush E (v := -2) dX11_climb_54 (by decide) ?_
        exact ju_ireturn E EU hc hb ⟨hx, hZ, hb, _, rfl, h⟩ dX11_climb_56
    · have h := h.2 c35
      refine j_iconst E (v := -1) dX11_climb_20 (by decide) ?_
      exact ju_ireturn E EU hc hb ⟨hx, hZ, hb, _, rfl, h⟩ dX11_climb_21
set_option maxRecDepth 100000 in
def f_X11_knees (B : Nat × Nat) (v0 : Nat) (v1 : Int32) (Z : jZ) (I : jI) (L : jL) (Q : Int32 → jZ → jI → jL → Prop) : Prop := (f_X11_find v0 v1 Z I L (fun r7 I3 L4 => ((r7 = none → Q (-1 : Int32) Z I3 L4) ∧ (∀ b8 : Nat, r7 = some b8 → (∀ b10 : Nat, jr Z v0 2 = some b10 → ((¬ (I3 b10 9) = 0 → (∀ b12 : Nat, jr Z b8 8 = some b12 → (f_X6_lay b12 (I3 b8 3) (I3 b8 4) (-1 : Int32) Z I3 L4 (fun I15 L16 => (∀ b19 : Nat, jr Z v0 9 = some b19 → (∀ b20 : Nat, jr Z b8 8 = some b20 → (f_X0_easiest B b19 b20 Z I15 L16 (fun r27 Z22 I23 L24 => ((¬ (lg_cmp r27 (9223372036854775807 : Int64)) = 0 → (f_X11_costIn r27 Z22 I23 L24 (fun r37 I33 L34 => (f_X11_tellOne v0 (r37.toInt64) Z22 I33 L34 (fun I40 L41 => (f_X11_effortIn r27 Z22 I40 L41 (fun r50 I46 L47 => Q r50 Z22 I46 L47))))))) ∧ ((lg_cmp r27 (9223372036854775807 : Int64)) = 0 → Q (-2 : Int32) Z22 I23 L24)))))))))) ∧ ((I3 b10 9) = 0 → Q (-1 : Int32) Z I3 L4)))))))
set_option maxHeartbeats 4000000 in
set_option maxRecDepth 100000 in
theorem c_X11_knees (l : Launch) (D : va_G) (cy : jC) (B : Nat × Nat) (v0 : Nat) (v1 : Int32) (Z : jZ) (I : jI) (L : jL) (Q : Int32 → jZ → jI → jL → Prop) (hZ : SH Z) (hb : jin B Z) (kv0 : jk Z v0 11) (h : f_X11_knees B v0 v1 Z I L Q) : jCtU l yX11_knees w_X11_knees B 6 150 D cy [.ref v0, .int v1] Z I L (urtI B Z Q) := by
  refine jCtU_of (cc := cX11_knees) (maxL := 5) (ret := (some .int)) (by decide +kernel) rfl (Nat.le_of_ble_eq_true rfl) ?_
  intro G eD eY eL E EU
  subst eD; subst eY; subst eL
  have E : jE G cX11_knees RX11 w_X11_knees 5 (some .int) (jrm B 6 150 Z) jRF := E
  have hx : jext Z Z := jext_rfl
  have hc : jle Z Z := jle_rfl
  show jJ G 5 0 [(0, .ref v0), (1, .int v1)] [] Z I L (jcz Z - jcz Z) (jsz Z - jsz Z)
  refine j_aload_n E dX11_knees_0 0 rfl ?_
  refine j_iload_n E dX11_knees_1 1 rfl ?_
  refine j_callV E [.int v1] [] (c_X11_find (gL G) (gD G) (gY G) v0 v1 Z I L _ hZ kv0 h) (gwV W_437 W_438 W_439 W_40 W_436) rfl ⟨rfl, fy_X11_find⟩ ⟨Nat.le_of_ble_eq_true rfl, Nat.le_of_ble_eq_true rfl⟩ (c := 11) rfl (by decide) kv0 rfl rfl (Nat.le_of_ble_eq_true rfl) (ju_kn hb) dX11_knees_2 (fun v1 Z2 I3 L4 q5 => ?_)
  obtain ⟨rfl, r7, rfl, zr7, h⟩ := q5
  show jJ G 5 5 [(0, .ref v0), (1, .int v1)] (va_rf r7 :: []) Z I3 L4 (jcz Z - jcz Z) (jsz Z - jsz Z)
  rcases c9 : r7 with _ | b8
  · have h := h.1 c9
    refine j_rfN rfl ?_
    refine j_astore_nN E 2 [(2, .null), (0, .ref v0), (1, .int v1)] dX11_knees_5 rfl (by decide) rfl ?_
    refine j_aload_nN E dX11_knees_6 0 rfl ?_
    refine j_ifnullN E 20 dX11_knees_7 (by decide) ?_
    refine j_iconst E (v := -1) dX11_knees_20 (by decide) ?_
    exact ju_ireturn E EU hc hb ⟨hx, hZ, hb, _, rfl, h⟩ dX11_knees_21
  · have h := h.2 b8 c9
    have kb8 := zr7 b8 c9
    refine j_rfS rfl ?_
    refine j_astore_n E 2 [(2, .ref b8), (0, .ref v0), (1, .int v1)] dX11_knees_5 rfl (by decide) rfl ?_
    refine j_aload_n E dX11_knees_6 0 rfl ?_
    refine j_ifnull E dX11_knees_7 ?_
    refine j_aload_n E dX11_knees_10 1 rfl ?_
    obtain ⟨b10, eb10, kb10⟩ := sh_o hZ kv0 (j := 2) (k := 8) rfl
    have h := h b10 eb10
    refine j_getr E 11 2 rfl rfl (by decide) (by decide) (iw iT_11) rfl rfl (tw W_454) kv0 eb10 dX11_knees_11 ?_
    refine j_getiN E 8 9 rfl rfl (by decide) (by decide) (iw iT_8) rfl rfl (nw_8_9_X11_172) kb10 dX11_knees_14 ?_
    refine j_if_ne E 22 dX11_knees_17 (by decide) (fun c11 => ?_) (fun c11 => ?_)
    · have h := h.1 c11
      refine j_aload_n E dX11_knees_22 0 rfl ?_
      obtain ⟨b12, eb12, kb12⟩ := sh_o hZ kb8 (j := 8) (k := 6) rfl
      have h := h b12 eb12
      refine j_getrN E 5 8 rfl rfl (by decide) (by decide) (iw iT_5) rfl rfl (nw_5_8_X11_263) kb8 eb12 dX11_knees_23 ?_
      refine j_aload_n E dX11_knees_26 0 rfl ?_
      refine j_getiN E 5 3 rfl rfl (by decide) (by decide) (iw iT_5) rfl rfl (nw_5_3_X11_213) kb8 dX11_knees_27 ?_
      refine j_aload_n E dX11_knees_30 0 rfl ?_
      refine j_getiN E 5 4 rfl rfl (by decide) (by decide) (iw iT_5) rfl rfl (nw_5_4_X11_196) kb8 dX11_knees_31 ?_
      refine j_iconst E (v := -1) dX11_knees_34 (by decide) ?_
      refine j_callV E [.int (I3 b8 3), .int (I3 b8 4), .int (-1 : Int32)] [] (c_X6_lay (gL G) (gD G) (gY G) b12 (I3 b8 3) (I3 b8 4) (-1 : Int32) Z I3 L4 _ hZ kb12 h) (gwV W_532 W_533 W_534 W_33 W_531) rfl ⟨rfl, fy_X6_lay⟩ ⟨Nat.le_of_ble_eq_true rfl, Nat.le_of_ble_eq_true rfl⟩ (c := 6) rfl (by decide) kb12 rfl rfl (Nat.le_of_ble_eq_true rfl) (ju_kn hb) dX11_knees_35 (fun v13 Z14 I15 L16 q17 => ?_)
      obtain ⟨rfl, rfl, h⟩ := q17
      show jJ G 5 38 [(2, .ref b8), (0, .ref v0), (1, .int v1)] [] Z I15 L16 (jcz Z - jcz Z) (jsz Z - jsz Z)
      refine j_aload_n E dX11_knees_38 1 rfl ?_
      obtain ⟨b19, eb19, kb19⟩ := sh_o hZ kv0 (j := 9) (k := 0) rfl
      have h := h b19 eb19
      refine j_getr E 11 9 rfl rfl (by decide) (by decide) (iw iT_11) rfl rfl (tw W_544) kv0 eb19 dX11_knees_39 ?_
      refine j_aload_n E dX11_knees_42 0 rfl ?_
      obtain ⟨b20, eb20, kb20⟩ := sh_o hZ kb8 (j := 8) (k := 6) rfl
      have h := h b20 eb20
      refine j_getrN E 5 8 rfl rfl (by decide) (by decide) (iw iT_5) rfl rfl (nw_5_8_X11_263) kb8 eb20 dX11_knees_43 ?_
      refine ju_callV E [.ref b20] [] (c_X0_easiest (gL G) (gD G) (gY G) B b19 b20 Z I15 L16 _ hZ hb kb19 kb20 h) (gwV W_546 W_547 W_548 W_98 W_545) rfl ⟨rfl, fy_X0_easiest⟩ ⟨Nat.le_of_ble_eq_true rfl, Nat.le_of_ble_eq_true rfl⟩ (c := 0) rfl (by decide) kb19 rfl rfl (Nat.le_of_ble_eq_true rfl) (ju_f hc hb) dX11_knees_46 (fun v21 Z22 I23 L24 q25 j26 => ?_)
      refine ju_next hc j26 ?_
      have hc := jle_trans hc j26
      obtain ⟨yZ22, hZ22, hbZ22, r27, rfl, h⟩ := q25
      have hZ := hZ22
      have hx : jext Z Z22 := jext_trans hx yZ22
      have hb := hbZ22
      have k28 := (yZ22 _ _ kv0).1
      have k29 := (yZ22 _ _ kb8).1
      show jJ G 5 49 [(2, .ref b8), (0, .ref v0), (1, .int v1)] [.long r27] Z22 I23 L24 (jcz Z22 - jcz Z) (jsz Z22 - jsz Z)
      refine j_lstore_n E 3 [(3, .long r27), (2, .ref b8), (0, .ref v0), (1, .int v1)] dX11_knees_49 rfl (by decide) rfl ?_
      refine j_lload_n E dX11_knees_50 0 rfl ?_
      refine j_ldc2 E (tw W_539) dX11_knees_51 ?_
      refine j_lcmp E dX11_knees_54 ?_
      refine j_if_ne E 61 dX11_knees_55 (by decide) (fun c30 => ?_) (fun c30 => ?_)
      · have h := h.1 c30
        refine j_aload_n E dX11_knees_61 2 rfl ?_
        refine j_lload_n E dX11_knees_62 0 rfl ?_
        refine j_callS E [.long r27] [.ref v0] (c_X11_costIn (gL G) (gD G) (gY G) r27 Z22 I23 L24 _ hZ  h) (gwS W_529 W_67 W_40 W_66) rfl fy_X11_costIn ⟨Nat.le_of_ble_eq_true rfl, Nat.le_of_ble_eq_true rfl⟩ rfl rfl (Nat.le_of_ble_eq_true rfl) (ju_kn hb) dX11_knees_63 (fun v31 Z32 I33 L34 q35 => ?_)
        obtain ⟨rfl, r37, rfl, h⟩ := q35
        show jJ G 5 66 [(3, .long r27), (2, .ref b8), (0, .ref v0), (1, .int v1)] [.int r37, .ref v0] Z22 I33 L34 (jcz Z22 - jcz Z) (jsz Z22 - jsz Z)
        refine j_i2l E dX11_knees_66 ?_
        refine j_callV E [.long (r37.toInt64)] [] (c_X11_tellOne (gL G) (gD G) (gY G) v0 (r37.toInt64) Z22 I33 L34 _ hZ k28 h) (gwV W_492 W_493 W_494 W_40 W_491) rfl ⟨rfl, fy_X11_tellOne⟩ ⟨Nat.le_of_ble_eq_true rfl, Nat.le_of_ble_eq_true rfl⟩ (c := 11) rfl (by decide) k28 rfl rfl (Nat.le_of_ble_eq_true rfl) (ju_kn hb) dX11_knees_67 (fun v38 Z39 I40 L41 q42 => ?_)
        obtain ⟨rfl, rfl, h⟩ := q42
        show jJ G 5 70 [(3, .long r27), (2, .ref b8), (0, .ref v0), (1, .int v1)] [] Z22 I40 L41 (jcz Z22 - jcz Z) (jsz Z22 - jsz Z)
        refine j_lload_n E dX11_knees_70 0 rfl ?_
        refine j_callS E [.long r27] [] (c_X11_effortIn (gL G) (gD G) (gY G) r27 Z22 I40 L41 _ hZ  h) (gwS W_540 W_69 W_40 W_68) rfl fy_X11_effortIn ⟨Nat.le_of_ble_eq_true rfl, Nat.le_of_ble_eq_true rfl⟩ rfl rfl (Nat.le_of_ble_eq_true rfl) (ju_kn hb) dX11_knees_71 (fun v44 Z45 I46 L47 q48 => ?_)
        obtain ⟨rfl, r50, rfl, h⟩ := q48
        show jJ G 5 74 [(3, .long r27), (2, .ref b8), (0, .ref v0), (1, .int v1)] [.int r50] Z22 I46 L47 (jcz Z22 - jcz Z) (jsz Z22 - jsz Z)
        exact ju_ireturn E EU hc hb ⟨hx, hZ, hb, _, rfl, h⟩ dX11_knees_74
      · have h := h.2 c30
        refine j_bipush E (v := -2) dX11_knees_58 (by decide) ?_
        exact ju_ireturn E EU hc hb ⟨hx, hZ, hb, _, rfl, h⟩ dX11_knees_60
    · have h := h.2 c11
      refine j_iconst E (v := -1) dX11_knees_20 (by decide) ?_
      exact ju_ireturn E EU hc hb ⟨hx, hZ, hb, _, rfl, h⟩ dX11_knees_21
set_option maxRecDepth 100000 in
def f_X11_ways_b21 (B : Nat × Nat)  (Q : Int64 → jZ → jI → jL → Prop)  (Z : jZ) (I : jI) (L : jL) : Prop := Q (-1 : Int64) Z I L
set_option maxHeartbeats 4000000 in
set_option maxRecDepth 100000 in
theorem m_X11_ways_b21 {G : jG} {B : Nat × Nat} {Z0 : jZ} {Q : Int64 → jZ → jI → jL → Prop} (E : jE G cX11_ways RX11 w_X11_ways 6 (some .long) (jrm B 6 172 Z0) jRF) (EU : jEU G B Z0 (urtL B Z0 Q))   (Z : jZ) (I : jI) (L : jL) (hZ : SH Z) (hx : jext Z0 Z) (hc : jle Z0 Z) (hb : jin B Z)  (h : f_X11_ways_b21 B  Q  Z I L) : jJ G 6 21 [] [] Z I L (jcz Z - jcz Z0) (jsz Z - jsz Z0) := by
  refine j_ldc2 E (tw W_549) dX11_ways_21 ?_
  exact ju_lreturn E EU hc hb ⟨hx, hZ, hb, _, rfl, h⟩ dX11_ways_24
set_option maxRecDepth 100000 in
def f_X11_ways (B : Nat × Nat) (v0 : Nat) (v1 : Int32) (v2 : Int32) (Z : jZ) (I : jI) (L : jL) (Q : Int64 → jZ → jI → jL → Prop) : Prop := (f_X11_find v0 v1 Z I L (fun r7 I3 L4 => ((r7 = none → f_X11_ways_b21 B  Q  Z I3 L4) ∧ (∀ b8 : Nat, r7 = some b8 → ((v2 < 0 → f_X11_ways_b21 B  Q  Z I3 L4) ∧ (¬ (v2 < 0) → ((v2 ≤ (999 : Int32) → (∀ b12 : Nat, jr Z b8 8 = some b12 → (f_X6_lay b12 (I3 b8 3) (I3 b8 4) (-1 : Int32) Z I3 L4 (fun I15 L16 => (∀ b19 : Nat, jr Z v0 9 = some b19 → (∀ b20 : Nat, jr Z b8 8 = some b20 → (f_X0_tally B b19 b20 v2 (-1 : Int32) Z I15 L16 (fun r27 Z22 I23 L24 => (∀ b30 : Nat, jr Z22 v0 9 = some b30 → (f_X11_tellOne v0 (L24 b30 2) Z22 I23 L24 (fun I33 L34 => Q r27 Z22 I33 L34))))))))))) ∧ (¬ (v2 ≤ (999 : Int32)) → f_X11_ways_b21 B  Q  Z I3 L4))))))))
set_option maxHeartbeats 4000000 in
set_option maxRecDepth 100000 in
theorem c_X11_ways (l : Launch) (D : va_G) (cy : jC) (B : Nat × Nat) (v0 : Nat) (v1 : Int32) (v2 : Int32) (Z : jZ) (I : jI) (L : jL) (Q : Int64 → jZ → jI → jL → Prop) (hZ : SH Z) (hb : jin B Z) (kv0 : jk Z v0 11) (h : f_X11_ways B v0 v1 v2 Z I L Q) : jCtU l yX11_ways w_X11_ways B 6 172 D cy [.ref v0, .int v1, .int v2] Z I L (urtL B Z Q) := by
  refine jCtU_of (cc := cX11_ways) (maxL := 6) (ret := (some .long)) (by decide +kernel) rfl (Nat.le_of_ble_eq_true rfl) ?_
  intro G eD eY eL E EU
  subst eD; subst eY; subst eL
  have E : jE G cX11_ways RX11 w_X11_ways 6 (some .long) (jrm B 6 172 Z) jRF := E
  have hx : jext Z Z := jext_rfl
  have hc : jle Z Z := jle_rfl
  show jJ G 6 0 [(0, .ref v0), (1, .int v1), (2, .int v2)] [] Z I L (jcz Z - jcz Z) (jsz Z - jsz Z)
  refine j_aload_n E dX11_ways_0 0 rfl ?_
  refine j_iload_n E dX11_ways_1 1 rfl ?_
  refine j_callV E [.int v1] [] (c_X11_find (gL G) (gD G) (gY G) v0 v1 Z I L _ hZ kv0 h) (gwV W_437 W_438 W_439 W_40 W_436) rfl ⟨rfl, fy_X11_find⟩ ⟨Nat.le_of_ble_eq_true rfl, Nat.le_of_ble_eq_true rfl⟩ (c := 11) rfl (by decide) kv0 rfl rfl (Nat.le_of_ble_eq_true rfl) (ju_kn hb) dX11_ways_2 (fun v1 Z2 I3 L4 q5 => ?_)
  obtain ⟨rfl, r7, rfl, zr7, h⟩ := q5
  show jJ G 6 5 [(0, .ref v0), (1, .int v1), (2, .int v2)] (va_rf r7 :: []) Z I3 L4 (jcz Z - jcz Z) (jsz Z - jsz Z)
  rcases c9 : r7 with _ | b8
  · have h := h.1 c9
    refine j_rfN rfl ?_
    refine j_astore_nN E 3 [(3, .null), (0, .ref v0), (1, .int v1), (2, .int v2)] dX11_ways_5 rfl (by decide) rfl ?_
    refine j_aload_nN E dX11_ways_6 0 rfl ?_
    refine j_ifnullN E 21 dX11_ways_7 (by decide) ?_
    refine j_sub [] rfl ?_
    exact m_X11_ways_b21 E EU   Z I3 L4 hZ hx hc hb  h
  · have h := h.2 b8 c9
    have kb8 := zr7 b8 c9
    refine j_rfS rfl ?_
    refine j_astore_n E 3 [(3, .ref b8), (0, .ref v0), (1, .int v1), (2, .int v2)] dX11_ways_5 rfl (by decide) rfl ?_
    refine j_aload_n E dX11_ways_6 0 rfl ?_
    refine j_ifnull E dX11_ways_7 ?_
    refine j_iload_n E dX11_ways_10 3 rfl ?_
    refine j_if_lt E 21 dX11_ways_11 (by decide) (fun c10 => ?_) (fun c10 => ?_)
    · have h := h.1 c10
      refine j_sub [] rfl ?_
      exact m_X11_ways_b21 E EU   Z I3 L4 hZ hx hc hb  h
    · have h := h.2 c10
      refine j_iload_n E dX11_ways_14 3 rfl ?_
      refine j_sipush E (v := 999) dX11_ways_15 (by decide) ?_
      refine j_icmp_le E 25 dX11_ways_18 (by decide) (fun c11 => ?_) (fun c11 => ?_)
      · have h := h.1 c11
        refine j_aload_n E dX11_ways_25 0 rfl ?_
        obtain ⟨b12, eb12, kb12⟩ := sh_o hZ kb8 (j := 8) (k := 6) rfl
        have h := h b12 eb12
        refine j_getrN E 5 8 rfl rfl (by decide) (by decide) (iw iT_5) rfl rfl (nw_5_8_X11_263) kb8 eb12 dX11_ways_26 ?_
        refine j_aload_n E dX11_ways_29 0 rfl ?_
        refine j_getiN E 5 3 rfl rfl (by decide) (by decide) (iw iT_5) rfl rfl (nw_5_3_X11_213) kb8 dX11_ways_30 ?_
        refine j_aload_n E dX11_ways_33 0 rfl ?_
        refine j_getiN E 5 4 rfl rfl (by decide) (by decide) (iw iT_5) rfl rfl (nw_5_4_X11_196) kb8 dX11_ways_34 ?_
        refine j_iconst E (v := -1) dX11_ways_37 (by decide) ?_
        refine j_callV E [.int (I3 b8 3), .int (I3 b8 4), .int (-1 : Int32)] [] (c_X6_lay (gL G) (gD G) (gY G) b12 (I3 b8 3) (I3 b8 4) (-1 : Int32) Z I3 L4 _ hZ kb12 h) (gwV W_532 W_533 W_534 W_33 W_531) rfl ⟨rfl, fy_X6_lay⟩ ⟨Nat.le_of_ble_eq_true rfl, Nat.le_of_ble_eq_true rfl⟩ (c := 6) rfl (by decide) kb12 rfl rfl (Nat.le_of_ble_eq_true rfl) (ju_kn hb) dX11_ways_38 (fun v13 Z14 I15 L16 q17 => ?_)
        obtain ⟨rfl, rfl, h⟩ := q17
        show jJ G 6 41 [(3, .ref b8), (0, .ref v0), (1, .int v1), (2, .int v2)] [] Z I15 L16 (jcz Z - jcz Z) (jsz Z - jsz Z)
        refine j_aload_n E dX11_ways_41 1 rfl ?_
        obtain ⟨b19, eb19, kb19⟩ := sh_o hZ kv0 (j := 9) (k := 0) rfl
        have h := h b19 eb19
        refine j_getr E 11 9 rfl rfl (by decide) (by decide) (iw iT_11) rfl rfl (tw W_544) kv0 eb19 dX11_ways_42 ?_
        refine j_aload_n E dX11_ways_45 0 rfl ?_
        obtain ⟨b20, eb20, kb20⟩ := sh_o hZ kb8 (j := 8) (k := 6) rfl
        have h := h b20 eb20
        refine j_getrN E 5 8 rfl rfl (by decide) (by decide) (iw iT_5) rfl rfl (nw_5_8_X11_263) kb8 eb20 dX11_ways_46 ?_
        refine j_iload_n E dX11_ways_49 3 rfl ?_
        refine j_iconst E (v := -1) dX11_ways_50 (by decide) ?_
        refine ju_callV E [.ref b20, .int v2, .int (-1 : Int32)] [] (c_X0_tally (gL G) (gD G) (gY G) B b19 b20 v2 (-1 : Int32) Z I15 L16 _ hZ hb kb19 kb20 h) (gwV W_551 W_552 W_553 W_98 W_550) rfl ⟨rfl, fy_X0_tally⟩ ⟨Nat.le_of_ble_eq_true rfl, Nat.le_of_ble_eq_true rfl⟩ (c := 0) rfl (by decide) kb19 rfl rfl (Nat.le_of_ble_eq_true rfl) (ju_f hc hb) dX11_ways_51 (fun v21 Z22 I23 L24 q25 j26 => ?_)
        refine ju_next hc j26 ?_
        have hc := jle_trans hc j26
        obtain ⟨yZ22, hZ22, hbZ22, r27, rfl, h⟩ := q25
        have hZ := hZ22
        have hx : jext Z Z22 := jext_trans hx yZ22
        have hb := hbZ22
        have k28 := (yZ22 _ _ kv0).1
        have k29 := (yZ22 _ _ kb8).1
        show jJ G 6 54 [(3, .ref b8), (0, .ref v0), (1, .int v1), (2, .int v2)] [.long r27] Z22 I23 L24 (jcz Z22 - jcz Z) (jsz Z22 - jsz Z)
        refine j_lstore E 4 [(4, .long r27), (3, .ref b8), (0, .ref v0), (1, .int v1), (2, .int v2)] dX11_ways_54 (by decide) rfl ?_
        refine j_aload_n E dX11_ways_56 2 rfl ?_
        refine j_aload_n E dX11_ways_57 2 rfl ?_
        obtain ⟨b30, eb30, kb30⟩ := sh_o hZ k28 (j := 9) (k := 0) rfl
        have h := h b30 eb30
        refine j_getr E 11 9 rfl rfl (by decide) (by decide) (iw iT_11) rfl rfl (tw W_544) k28 eb30 dX11_ways_58 ?_
        refine j_getlN E 0 2 rfl rfl (by decide) (by decide) (iw iT_0) rfl rfl (nw_0_2_X11_305) kb30 dX11_ways_61 ?_
        refine j_callV E [.long (L24 b30 2)] [] (c_X11_tellOne (gL G) (gD G) (gY G) v0 (L24 b30 2) Z22 I23 L24 _ hZ k28 h) (gwV W_492 W_493 W_494 W_40 W_491) rfl ⟨rfl, fy_X11_tellOne⟩ ⟨Nat.le_of_ble_eq_true rfl, Nat.le_of_ble_eq_true rfl⟩ (c := 11) rfl (by decide) k28 rfl rfl (Nat.le_of_ble_eq_true rfl) (ju_kn hb) dX11_ways_64 (fun v31 Z32 I33 L34 q35 => ?_)
        obtain ⟨rfl, rfl, h⟩ := q35
        show jJ G 6 67 [(4, .long r27), (3, .ref b8), (0, .ref v0), (1, .int v1), (2, .int v2)] [] Z22 I33 L34 (jcz Z22 - jcz Z) (jsz Z22 - jsz Z)
        refine j_lload E dX11_ways_67 0 rfl ?_
        exact ju_lreturn E EU hc hb ⟨hx, hZ, hb, _, rfl, h⟩ dX11_ways_69
      · have h := h.2 c11
        refine j_sub [] rfl ?_
        exact m_X11_ways_b21 E EU   Z I3 L4 hZ hx hc hb  h
set_option maxRecDepth 100000 in
def f_X11_tellFraction_b44  (Z : jZ) (Q : jI → jL → Prop) (v0 : Nat) (v1 : Int64) (v3 : Int64) (v5 : Int64) (I : jI) (L : jL) : Prop := (((lg_cmp v5 (0 : Int64)) = 0 → Q I L) ∧ (¬ ((lg_cmp v5 (0 : Int64)) = 0) → (¬ v5 = 0 ∧ (¬ v5 = 0 ∧ (f_X11_tellTwo v0 (v1 / v5) (v3 / v5) Z I L (fun I6 L7 => Q I6 L7))))))
set_option maxHeartbeats 4000000 in
set_option maxRecDepth 100000 in
theorem m_X11_tellFraction_b44 {G : jG} {Z : jZ} {Q : jI → jL → Prop} (E : jE G cX11_tellFraction RX11 w_X11_tellFraction 12 none { frames := 3, cells := 0, slots := 0, locals := 68 } (rtV Z Q)) (hZ : SH Z)  (v0 : Nat) (v1 : Int64) (v3 : Int64) (v5 : Int64) (I : jI) (L : jL) (kv0 : jk Z v0 11) (h : f_X11_tellFraction_b44  Z Q v0 v1 v3 v5 I L) : jJ G 12 44 [(0, .ref v0), (1, .long v1), (3, .long v3), (5, .long v5)] [] Z I L 0 0 := by
  refine j_lload E dX11_tellFraction_44 3 rfl ?_
  refine j_lconst E (v := 0) dX11_tellFraction_46 (by decide) ?_
  refine j_lcmp E dX11_tellFraction_47 ?_
  refine j_if_eq E 63 dX11_tellFraction_48 (by decide) (fun c1 => ?_) (fun c1 => ?_)
  · have h := h.1 c1
    exact j_return E ⟨rfl, rfl, h⟩ (Nat.zero_le _) (Nat.zero_le _) dX11_tellFraction_63
  · have h := h.2 c1
    refine j_aload_n E dX11_tellFraction_51 0 rfl ?_
    refine j_lload_n E dX11_tellFraction_52 1 rfl ?_
    refine j_lload E dX11_tellFraction_53 3 rfl ?_
    obtain ⟨o2, h⟩ := h
    refine j_ldiv E dX11_tellFraction_55 o2 ?_
    refine j_lload_n E dX11_tellFraction_56 2 rfl ?_
    refine j_lload E dX11_tellFraction_57 3 rfl ?_
    obtain ⟨o3, h⟩ := h
    refine j_ldiv E dX11_tellFraction_59 o3 ?_
    refine j_callV E [.long (v1 / v5), .long (v3 / v5)] [] (c_X11_tellTwo (gL G) (gD G) (gY G) v0 (v1 / v5) (v3 / v5) Z I L _ hZ kv0 h) (gwV W_501 W_502 W_503 W_40 W_500) rfl ⟨rfl, fy_X11_tellTwo⟩ ⟨by decide, by decide⟩ (c := 11) rfl (by decide) kv0 rfl rfl (Nat.le_of_ble_eq_true rfl) ⟨Nat.zero_le _, Nat.zero_le _⟩ dX11_tellFraction_60 (fun v4 Z5 I6 L7 q8 => ?_)
    obtain ⟨rfl, rfl, h⟩ := q8
    show jJ G 12 63 [(0, .ref v0), (1, .long v1), (3, .long v3), (5, .long v5)] [] Z I6 L7 0 0
    exact j_return E ⟨rfl, rfl, h⟩ (Nat.zero_le _) (Nat.zero_le _) dX11_tellFraction_63
set_option maxRecDepth 100000 in
def f_X11_tellFraction_L9  (Z : jZ) (Q : jI → jL → Prop) : Nat → Nat → Int64 → Int64 → Int64 → Int64 → Int32 → jI → jL → Prop
  | 0 => fun _ _ _ _ _ _ _ _ => False
  | n + 1 => fun v0 v1 v3 v5 v7 v9 I L => (((100 : Int32) ≤ v9 → f_X11_tellFraction_b44  Z Q v0 v1 v3 v5 I L) ∧ (¬ ((100 : Int32) ≤ v9) → (((lg_cmp v7 (0 : Int64)) = 0 → f_X11_tellFraction_b44  Z Q v0 v1 v3 v5 I L) ∧ (¬ ((lg_cmp v7 (0 : Int64)) = 0) → (¬ v7 = 0 ∧ (∀ x13 : Int64, x13 = (v5 - v5 / v7 * v7) → (∀ x14 : Int32, x14 = v9 + 1 → (f_X11_tellFraction_L9 Z Q n) v0 v1 v3 v7 x13 x14 I L)))))))
set_option maxHeartbeats 4000000 in
set_option maxRecDepth 100000 in
theorem m_X11_tellFraction_L9 {G : jG} {Z : jZ} {Q : jI → jL → Prop} (E : jE G cX11_tellFraction RX11 w_X11_tellFraction 12 none { frames := 3, cells := 0, slots := 0, locals := 68 } (rtV Z Q)) (hZ : SH Z)  : ∀ (n : Nat) (v0 : Nat) (v1 : Int64) (v3 : Int64) (v5 : Int64) (v7 : Int64) (v9 : Int32) (I : jI) (L : jL), jk Z v0 11 → f_X11_tellFraction_L9  Z Q n v0 v1 v3 v5 v7 v9 I L → jJ G 12 9 [(0, .ref v0), (1, .long v1), (3, .long v3), (5, .long v5), (7, .long v7), (9, .int v9)] [] Z I L 0 0 := by
  intro n
  induction n with
  | zero => intro v0 v1 v3 v5 v7 v9 I L _ h; exact h.elim
  | succ n ih =>
    intro v0 v1 v3 v5 v7 v9 I L kv0 h
    have h : (((100 : Int32) ≤ v9 → f_X11_tellFraction_b44  Z Q v0 v1 v3 v5 I L) ∧ (¬ ((100 : Int32) ≤ v9) → (((lg_cmp v7 (0 : Int64)) = 0 → f_X11_tellFraction_b44  Z Q v0 v1 v3 v5 I L) ∧ (¬ ((lg_cmp v7 (0 : Int64)) = 0) → (¬ v7 = 0 ∧ (∀ x13 : Int64, x13 = (v5 - v5 / v7 * v7) → (∀ x14 : Int32, x14 = v9 + 1 → (f_X11_tellFraction_L9 Z Q n) v0 v1 v3 v7 x13 x14 I L))))))) := h
    obtain ⟨K9, eK9⟩ : ∃ K : Nat → Int64 → Int64 → Int64 → Int64 → Int32 → jI → jL → Prop, K = f_X11_tellFraction_L9  Z Q n := ⟨_, rfl⟩
    have hK9 := ih
    clear eK9 K9
    generalize f_X11_tellFraction_L9  Z Q n = K9 at hK9 h
    refine j_iload E dX11_tellFraction_9 5 rfl ?_
    refine j_bipush E (v := 100) dX11_tellFraction_11 (by decide) ?_
    refine j_icmp_ge E 44 dX11_tellFraction_13 (by decide) (fun c10 => ?_) (fun c10 => ?_)
    · have h := h.1 c10
      refine j_sub [0, 1, 2, 3] rfl ?_
      exact m_X11_tellFraction_b44 E hZ  v0 v1 v3 v5 I L kv0 h
    · have h := h.2 c10
      refine j_lload E dX11_tellFraction_16 4 rfl ?_
      refine j_lconst E (v := 0) dX11_tellFraction_18 (by decide) ?_
      refine j_lcmp E dX11_tellFraction_19 ?_
      refine j_if_eq E 44 dX11_tellFraction_20 (by decide) (fun c11 => ?_) (fun c11 => ?_)
      · have h := h.1 c11
        refine j_sub [0, 1, 2, 3] rfl ?_
        exact m_X11_tellFraction_b44 E hZ  v0 v1 v3 v5 I L kv0 h
      · have h := h.2 c11
        refine j_lload E dX11_tellFraction_23 3 rfl ?_
        refine j_lload E dX11_tellFraction_25 4 rfl ?_
        obtain ⟨o12, h⟩ := h
        refine j_lrem E dX11_tellFraction_27 o12 ?_
        refine j_topl (fun x13 ex13 => ?_)
        have h := h x13 ex13
        refine j_lstore E 10 [(10, .long x13), (0, .ref v0), (1, .long v1), (3, .long v3), (5, .long v5), (7, .long v7), (9, .int v9)] dX11_tellFraction_28 (by decide) rfl ?_
        refine j_lload E dX11_tellFraction_30 5 rfl ?_
        refine j_lstore E 5 [(5, .long v7), (10, .long x13), (0, .ref v0), (1, .long v1), (3, .long v3), (7, .long v7), (9, .int v9)] dX11_tellFraction_32 (by decide) rfl ?_
        refine j_lload E dX11_tellFraction_34 1 rfl ?_
        refine j_lstore E 7 [(7, .long x13), (5, .long v7), (10, .long x13), (0, .ref v0), (1, .long v1), (3, .long v3), (9, .int v9)] dX11_tellFraction_36 (by decide) rfl ?_
        obtain ⟨x14, ex14⟩ : ∃ y : Int32, y = v9 + 1 := ⟨_, rfl⟩
        have h := h x14 ex14
        refine j_iinc E x14 [(9, .int x14), (7, .long x13), (5, .long v7), (10, .long x13), (0, .ref v0), (1, .long v1), (3, .long v3)] dX11_tellFraction_38 6 rfl (by rw [ex14]; rfl) (by decide) rfl ?_
        refine j_goto E 9 dX11_tellFraction_41 (by decide) ?_
        refine j_sub [4, 5, 6, 2, 1, 0] rfl ?_
        exact hK9 v0 v1 v3 v7 x13 x14 I L kv0 h
set_option maxRecDepth 100000 in
def f_X11_tellFraction (v0 : Nat) (v1 : Int64) (v3 : Int64) (Z : jZ) (I : jI) (L : jL) (Q : jI → jL → Prop) : Prop := (∃ m9 : Nat, f_X11_tellFraction_L9  Z Q m9 v0 v1 v3 v3 v1 (0 : Int32) I L)
set_option maxHeartbeats 4000000 in
set_option maxRecDepth 100000 in
theorem c_X11_tellFraction (l : Launch) (D : va_G) (cy : jC) (v0 : Nat) (v1 : Int64) (v3 : Int64) (Z : jZ) (I : jI) (L : jL) (Q : jI → jL → Prop) (hZ : SH Z) (kv0 : jk Z v0 11) (h : f_X11_tellFraction v0 v1 v3 Z I L Q) : jCt l yX11_tellFraction w_X11_tellFraction { frames := 3, cells := 0, slots := 0, locals := 68 } D cy [.ref v0, .long v1, .long v3] Z I L (rtV Z Q) := by
  refine jCt_of (cc := cX11_tellFraction) (maxL := 12) (ret := none) (by decide +kernel) rfl (Nat.le_of_ble_eq_true rfl) ?_
  intro G eD eY eL E
  subst eD; subst eY; subst eL
  have E : jE G cX11_tellFraction RX11 w_X11_tellFraction 12 none { frames := 3, cells := 0, slots := 0, locals := 68 } (rtV Z Q) := E
  show jJ G 12 0 [(0, .ref v0), (1, .long v1), (3, .long v3)] [] Z I L 0 0
  refine j_lload_n E dX11_tellFraction_0 2 rfl ?_
  refine j_lstore E 5 [(5, .long v3), (0, .ref v0), (1, .long v1), (3, .long v3)] dX11_tellFraction_1 (by decide) rfl ?_
  refine j_lload_n E dX11_tellFraction_3 2 rfl ?_
  refine j_lstore E 7 [(7, .long v1), (5, .long v3), (0, .ref v0), (1, .long v1), (3, .long v3)] dX11_tellFraction_4 (by decide) rfl ?_
  refine j_iconst E (v := 0) dX11_tellFraction_6 (by decide) ?_
  refine j_istore E 9 [(9, .int (0 : Int32)), (7, .long v1), (5, .long v3), (0, .ref v0), (1, .long v1), (3, .long v3)] dX11_tellFraction_7 (by decide) rfl ?_
  obtain ⟨n15, h⟩ := h
  refine j_sub [3, 4, 5, 2, 1, 0] rfl ?_
  exact m_X11_tellFraction_L9 E hZ  n15 v0 v1 v3 v3 v1 (0 : Int32) I L kv0 h
set_option maxRecDepth 100000 in
def f_X11_trod (B : Nat × Nat) (v0 : Nat) (v1 : Int32) (v2 : Int32) (v3 : Int32) (Z : jZ) (I : jI) (L : jL) (Q : Int32 → jZ → jI → jL → Prop) : Prop := (f_X11_find v0 v1 Z I L (fun r7 I3 L4 => ((r7 = none → Q (-1 : Int32) Z I3 L4) ∧ (∀ b8 : Nat, r7 = some b8 → ((v2 < 0 → Q (-1 : Int32) Z I3 L4) ∧ (¬ (v2 < 0) → (((999 : Int32) < v2 → Q (-1 : Int32) Z I3 L4) ∧ (¬ ((999 : Int32) < v2) → (∀ b12 : Nat, jr Z v0 2 = some b12 → (f_X8_has b12 v3 Z I3 L4 (fun r19 I15 L16 => ((¬ r19 = 0 → (∀ b21 : Nat, jr Z b8 8 = some b21 → (f_X6_lay b21 (I15 b8 3) (I15 b8 4) (-1 : Int32) Z I15 L16 (fun I24 L25 => (∀ b28 : Nat, jr Z v0 9 = some b28 → (∀ b29 : Nat, jr Z b8 8 = some b29 → (f_X0_tally B b28 b29 v2 (-1 : Int32) Z I24 L25 (fun r36 Z31 I32 L33 => ((¬ (lg_cmp r36 (0 : Int64)) = 0 → (∀ b40 : Nat, jr Z31 v0 9 = some b40 → (∀ b41 : Nat, jr Z31 b8 8 = some b41 → (f_X0_tally B b40 b41 v2 v3 Z31 I32 L33 (fun r48 Z43 I44 L45 => (f_X11_tellFraction v0 r48 r36 Z43 I44 L45 (fun I53 L54 => Q (0 : Int32) Z43 I53 L54))))))) ∧ ((lg_cmp r36 (0 : Int64)) = 0 → Q (-2 : Int32) Z31 I32 L33)))))))))) ∧ (r19 = 0 → Q (-1 : Int32) Z I15 L16)))))))))))))
set_option maxHeartbeats 4000000 in
set_option maxRecDepth 100000 in
theorem c_X11_trod (l : Launch) (D : va_G) (cy : jC) (B : Nat × Nat) (v0 : Nat) (v1 : Int32) (v2 : Int32) (v3 : Int32) (Z : jZ) (I : jI) (L : jL) (Q : Int32 → jZ → jI → jL → Prop) (hZ : SH Z) (hb : jin B Z) (kv0 : jk Z v0 11) (h : f_X11_trod B v0 v1 v2 v3 Z I L Q) : jCtU l yX11_trod w_X11_trod B 6 172 D cy [.ref v0, .int v1, .int v2, .int v3] Z I L (urtI B Z Q) := by
  refine jCtU_of (cc := cX11_trod) (maxL := 7) (ret := (some .int)) (by decide +kernel) rfl (Nat.le_of_ble_eq_true rfl) ?_
  intro G eD eY eL E EU
  subst eD; subst eY; subst eL
  have E : jE G cX11_trod RX11 w_X11_trod 7 (some .int) (jrm B 6 172 Z) jRF := E
  have hx : jext Z Z := jext_rfl
  have hc : jle Z Z := jle_rfl
  show jJ G 7 0 [(0, .ref v0), (1, .int v1), (2, .int v2), (3, .int v3)] [] Z I L (jcz Z - jcz Z) (jsz Z - jsz Z)
  refine j_aload_n E dX11_trod_0 0 rfl ?_
  refine j_iload_n E dX11_trod_1 1 rfl ?_
  refine j_callV E [.int v1] [] (c_X11_find (gL G) (gD G) (gY G) v0 v1 Z I L _ hZ kv0 h) (gwV W_437 W_438 W_439 W_40 W_436) rfl ⟨rfl, fy_X11_find⟩ ⟨Nat.le_of_ble_eq_true rfl, Nat.le_of_ble_eq_true rfl⟩ (c := 11) rfl (by decide) kv0 rfl rfl (Nat.le_of_ble_eq_true rfl) (ju_kn hb) dX11_trod_2 (fun v1 Z2 I3 L4 q5 => ?_)
  obtain ⟨rfl, r7, rfl, zr7, h⟩ := q5
  show jJ G 7 5 [(0, .ref v0), (1, .int v1), (2, .int v2), (3, .int v3)] (va_rf r7 :: []) Z I3 L4 (jcz Z - jcz Z) (jsz Z - jsz Z)
  rcases c9 : r7 with _ | b8
  · have h := h.1 c9
    refine j_rfN rfl ?_
    refine j_astoreN E 4 [(4, .null), (0, .ref v0), (1, .int v1), (2, .int v2), (3, .int v3)] dX11_trod_5 (by decide) rfl ?_
    refine j_aloadN E dX11_trod_7 0 rfl ?_
    refine j_ifnullN E 34 dX11_trod_9 (by decide) ?_
    refine j_iconst E (v := -1) dX11_trod_34 (by decide) ?_
    exact ju_ireturn E EU hc hb ⟨hx, hZ, hb, _, rfl, h⟩ dX11_trod_35
  · have h := h.2 b8 c9
    have kb8 := zr7 b8 c9
    refine j_rfS rfl ?_
    refine j_astore E 4 [(4, .ref b8), (0, .ref v0), (1, .int v1), (2, .int v2), (3, .int v3)] dX11_trod_5 (by decide) rfl ?_
    refine j_aload E dX11_trod_7 0 rfl ?_
    refine j_ifnull E dX11_trod_9 ?_
    refine j_iload_n E dX11_trod_12 3 rfl ?_
    refine j_if_lt E 34 dX11_trod_13 (by decide) (fun c10 => ?_) (fun c10 => ?_)
    · have h := h.1 c10
      refine j_iconst E (v := -1) dX11_trod_34 (by decide) ?_
      exact ju_ireturn E EU hc hb ⟨hx, hZ, hb, _, rfl, h⟩ dX11_trod_35
    · have h := h.2 c10
      refine j_iload_n E dX11_trod_16 3 rfl ?_
      refine j_sipush E (v := 999) dX11_trod_17 (by decide) ?_
      refine j_icmp_gt E 34 dX11_trod_20 (by decide) (fun c11 => ?_) (fun c11 => ?_)
      · have h := h.1 c11
        refine j_iconst E (v := -1) dX11_trod_34 (by decide) ?_
        exact ju_ireturn E EU hc hb ⟨hx, hZ, hb, _, rfl, h⟩ dX11_trod_35
      · have h := h.2 c11
        refine j_aload_n E dX11_trod_23 1 rfl ?_
        obtain ⟨b12, eb12, kb12⟩ := sh_o hZ kv0 (j := 2) (k := 8) rfl
        have h := h b12 eb12
        refine j_getr E 11 2 rfl rfl (by decide) (by decide) (iw iT_11) rfl rfl (tw W_454) kv0 eb12 dX11_trod_24 ?_
        refine j_iload_n E dX11_trod_27 4 rfl ?_
        refine j_callV E [.int v3] [] (c_X8_has (gL G) (gD G) (gY G) b12 v3 Z I3 L4 _ hZ kb12 h) (gwV W_463 W_256 W_257 W_254 W_253) rfl ⟨rfl, fy_X8_has⟩ ⟨Nat.le_of_ble_eq_true rfl, Nat.le_of_ble_eq_true rfl⟩ (c := 8) rfl (by decide) kb12 rfl rfl (Nat.le_of_ble_eq_true rfl) (ju_kn hb) dX11_trod_28 (fun v13 Z14 I15 L16 q17 => ?_)
        obtain ⟨rfl, r19, rfl, zr19, h⟩ := q17
        show jJ G 7 31 [(4, .ref b8), (0, .ref v0), (1, .int v1), (2, .int v2), (3, .int v3)] [.int r19] Z I15 L16 (jcz Z - jcz Z) (jsz Z - jsz Z)
        refine j_if_ne E 36 dX11_trod_31 (by decide) (fun c20 => ?_) (fun c20 => ?_)
        · have h := h.1 c20
          refine j_aload E dX11_trod_36 0 rfl ?_
          obtain ⟨b21, eb21, kb21⟩ := sh_o hZ kb8 (j := 8) (k := 6) rfl
          have h := h b21 eb21
          refine j_getrN E 5 8 rfl rfl (by decide) (by decide) (iw iT_5) rfl rfl (nw_5_8_X11_263) kb8 eb21 dX11_trod_38 ?_
          refine j_aload E dX11_trod_41 0 rfl ?_
          refine j_getiN E 5 3 rfl rfl (by decide) (by decide) (iw iT_5) rfl rfl (nw_5_3_X11_213) kb8 dX11_trod_43 ?_
          refine j_aload E dX11_trod_46 0 rfl ?_
          refine j_getiN E 5 4 rfl rfl (by decide) (by decide) (iw iT_5) rfl rfl (nw_5_4_X11_196) kb8 dX11_trod_48 ?_
          refine j_iconst E (v := -1) dX11_trod_51 (by decide) ?_
          refine j_callV E [.int (I15 b8 3), .int (I15 b8 4), .int (-1 : Int32)] [] (c_X6_lay (gL G) (gD G) (gY G) b21 (I15 b8 3) (I15 b8 4) (-1 : Int32) Z I15 L16 _ hZ kb21 h) (gwV W_532 W_533 W_534 W_33 W_531) rfl ⟨rfl, fy_X6_lay⟩ ⟨Nat.le_of_ble_eq_true rfl, Nat.le_of_ble_eq_true rfl⟩ (c := 6) rfl (by decide) kb21 rfl rfl (Nat.le_of_ble_eq_true rfl) (ju_kn hb) dX11_trod_52 (fun v22 Z23 I24 L25 q26 => ?_)
          obtain ⟨rfl, rfl, h⟩ := q26
          show jJ G 7 55 [(4, .ref b8), (0, .ref v0), (1, .int v1), (2, .int v2), (3, .int v3)] [] Z I24 L25 (jcz Z - jcz Z) (jsz Z - jsz Z)
          refine j_aload_n E dX11_trod_55 1 rfl ?_
          obtain ⟨b28, eb28, kb28⟩ := sh_o hZ kv0 (j := 9) (k := 0) rfl
          have h := h b28 eb28
          refine j_getr E 11 9 rfl rfl (by decide) (by decide) (iw iT_11) rfl rfl (tw W_544) kv0 eb28 dX11_trod_56 ?_
          refine j_aload E dX11_trod_59 0 rfl ?_
          obtain ⟨b29, eb29, kb29⟩ := sh_o hZ kb8 (j := 8) (k := 6) rfl
          have h := h b29 eb29
          refine j_getrN E 5 8 rfl rfl (by decide) (by decide) (iw iT_5) rfl rfl (nw_5_8_X11_263) kb8 eb29 dX11_trod_61 ?_
          refine j_iload_n E dX11_trod_64 3 rfl ?_
          refine j_iconst E (v := -1) dX11_trod_65 (by decide) ?_
          refine ju_callV E [.ref b29, .int v2, .int (-1 : Int32)] [] (c_X0_tally (gL G) (gD G) (gY G) B b28 b29 v2 (-1 : Int32) Z I24 L25 _ hZ hb kb28 kb29 h) (gwV W_551 W_552 W_553 W_98 W_550) rfl ⟨rfl, fy_X0_tally⟩ ⟨Nat.le_of_ble_eq_true rfl, Nat.le_of_ble_eq_true rfl⟩ (c := 0) rfl (by decide) kb28 rfl rfl (Nat.le_of_ble_eq_true rfl) (ju_f hc hb) dX11_trod_66 (fun v30 Z31 I32 L33 q34 j35 => ?_)
          refine ju_next hc j35 ?_
          have hc := jle_trans hc j35
          obtain ⟨yZ31, hZ31, hbZ31, r36, rfl, h⟩ := q34
          have hZ := hZ31
          have hx : jext Z Z31 := jext_trans hx yZ31
          have hb := hbZ31
          have k37 := (yZ31 _ _ kv0).1
          have k38 := (yZ31 _ _ kb8).1
          show jJ G 7 69 [(4, .ref b8), (0, .ref v0), (1, .int v1), (2, .int v2), (3, .int v3)] [.long r36] Z31 I32 L33 (jcz Z31 - jcz Z) (jsz Z31 - jsz Z)
          refine j_lstore E 5 [(5, .long r36), (4, .ref b8), (0, .ref v0), (1, .int v1), (2, .int v2), (3, .int v3)] dX11_trod_69 (by decide) rfl ?_
          refine j_lload E dX11_trod_71 0 rfl ?_
          refine j_lconst E (v := 0) dX11_trod_73 (by decide) ?_
          refine j_lcmp E dX11_trod_74 ?_
          refine j_if_ne E 81 dX11_trod_75 (by decide) (fun c39 => ?_) (fun c39 => ?_)
          · have h := h.1 c39
            refine j_aload_n E dX11_trod_81 2 rfl ?_
            refine j_aload_n E dX11_trod_82 2 rfl ?_
            obtain ⟨b40, eb40, kb40⟩ := sh_o hZ k37 (j := 9) (k := 0) rfl
            have h := h b40 eb40
            refine j_getr E 11 9 rfl rfl (by decide) (by decide) (iw iT_11) rfl rfl (tw W_544) k37 eb40 dX11_trod_83 ?_
            refine j_aload E dX11_trod_86 1 rfl ?_
            obtain ⟨b41, eb41, kb41⟩ := sh_o hZ k38 (j := 8) (k := 6) rfl
            have h := h b41 eb41
            refine j_getrN E 5 8 rfl rfl (by decide) (by decide) (iw iT_5) rfl rfl (nw_5_8_X11_263) k38 eb41 dX11_trod_88 ?_
            refine j_iload_n E dX11_trod_91 4 rfl ?_
            refine j_iload_n E dX11_trod_92 5 rfl ?_
            refine ju_callV E [.ref b41, .int v2, .int v3] [.ref v0] (c_X0_tally (gL G) (gD G) (gY G) B b40 b41 v2 v3 Z31 I32 L33 _ hZ hb kb40 kb41 h) (gwV W_551 W_552 W_553 W_98 W_550) rfl ⟨rfl, fy_X0_tally⟩ ⟨Nat.le_of_ble_eq_true rfl, Nat.le_of_ble_eq_true rfl⟩ (c := 0) rfl (by decide) kb40 rfl rfl (Nat.le_of_ble_eq_true rfl) (ju_f hc hb) dX11_trod_93 (fun v42 Z43 I44 L45 q46 j47 => ?_)
            refine ju_next hc j47 ?_
            have hc := jle_trans hc j47
            obtain ⟨yZ43, hZ43, hbZ43, r48, rfl, h⟩ := q46
            have hZ := hZ43
            have hx : jext Z Z43 := jext_trans hx yZ43
            have hb := hbZ43
            have k49 := (yZ43 _ _ k37).1
            have k50 := (yZ43 _ _ k38).1
            show jJ G 7 96 [(5, .long r36), (4, .ref b8), (0, .ref v0), (1, .int v1), (2, .int v2), (3, .int v3)] [.long r48, .ref v0] Z43 I44 L45 (jcz Z43 - jcz Z) (jsz Z43 - jsz Z)
            refine j_lload E dX11_trod_96 0 rfl ?_
            refine j_callV E [.long r48, .long r36] [] (c_X11_tellFraction (gL G) (gD G) (gY G) v0 r48 r36 Z43 I44 L45 _ hZ k49 h) (gwV W_555 W_556 W_557 W_40 W_554) rfl ⟨rfl, fy_X11_tellFraction⟩ ⟨Nat.le_of_ble_eq_true rfl, Nat.le_of_ble_eq_true rfl⟩ (c := 11) rfl (by decide) k49 rfl rfl (Nat.le_of_ble_eq_true rfl) (ju_kn hb) dX11_trod_98 (fun v51 Z52 I53 L54 q55 => ?_)
            obtain ⟨rfl, rfl, h⟩ := q55
            show jJ G 7 101 [(5, .long r36), (4, .ref b8), (0, .ref v0), (1, .int v1), (2, .int v2), (3, .int v3)] [] Z43 I53 L54 (jcz Z43 - jcz Z) (jsz Z43 - jsz Z)
            refine j_iconst E (v := 0) dX11_trod_101 (by decide) ?_
            exact ju_ireturn E EU hc hb ⟨hx, hZ, hb, _, rfl, h⟩ dX11_trod_102
          · have h := h.2 c39
            refine j_bipush E (v := -2) dX11_trod_78 (by decide) ?_
            exact ju_ireturn E EU hc hb ⟨hx, hZ, hb, _, rfl, h⟩ dX11_trod_80
        · have h := h.2 c20
          refine j_iconst E (v := -1) dX11_trod_34 (by decide) ?_
          exact ju_ireturn E EU hc hb ⟨hx, hZ, hb, _, rfl, h⟩ dX11_trod_35
set_option maxRecDepth 100000 in
def f_X11_who_b100 (B : Nat × Nat) (K29 : Nat → Int32 → Int32 → Int32 → Int32 → jZ → jI → jL → Prop) (Q : Int32 → jZ → jI → jL → Prop) (v0 : Nat) (v1 : Int32) (v2 : Int32) (v3 : Int32) (v4 : Int32) (Z : jZ) (I : jI) (L : jL) : Prop := (∀ x1 : Int32, x1 = v4 + 1 → K29 v0 v1 v2 v3 x1 Z I L)
set_option maxHeartbeats 4000000 in
set_option maxRecDepth 100000 in
theorem m_X11_who_b100 {G : jG} {B : Nat × Nat} {Z0 : jZ} {Q : Int32 → jZ → jI → jL → Prop} (E : jE G cX11_who RX11 w_X11_who 6 (some .int) (jrm B 6 172 Z0) jRF) (EU : jEU G B Z0 (urtI B Z0 Q)) (K29 : Nat → Int32 → Int32 → Int32 → Int32 → jZ → jI → jL → Prop) (hK29 : ∀ (v0 : Nat) (v1 : Int32) (v2 : Int32) (v3 : Int32) (v4 : Int32) (Z : jZ) (I : jI) (L : jL), SH Z → jext Z0 Z → jle Z0 Z → jin B Z → jk Z v0 11 → K29 v0 v1 v2 v3 v4 Z I L → jJ G 6 29 [(0, .ref v0), (1, .int v1), (2, .int v2), (3, .int v3), (4, .int v4)] [] Z I L (jcz Z - jcz Z0) (jsz Z - jsz Z0)) (v0 : Nat) (v1 : Int32) (v2 : Int32) (v3 : Int32) (v4 : Int32) (Z : jZ) (I : jI) (L : jL) (hZ : SH Z) (hx : jext Z0 Z) (hc : jle Z0 Z) (hb : jin B Z) (kv0 : jk Z v0 11) (h : f_X11_who_b100 B K29 Q v0 v1 v2 v3 v4 Z I L) : jJ G 6 100 [(0, .ref v0), (1, .int v1), (2, .int v2), (3, .int v3), (4, .int v4)] [] Z I L (jcz Z - jcz Z0) (jsz Z - jsz Z0) := by
  obtain ⟨x1, ex1⟩ : ∃ y : Int32, y = v4 + 1 := ⟨_, rfl⟩
  have h := h x1 ex1
  refine j_iinc E x1 [(4, .int x1), (0, .ref v0), (1, .int v1), (2, .int v2), (3, .int v3)] dX11_who_100 4 rfl (by rw [ex1]; rfl) (by decide) rfl ?_
  refine j_goto E 29 dX11_who_103 (by decide) ?_
  refine j_sub [1, 2, 3, 4, 0] rfl ?_
  exact hK29 v0 v1 v2 v3 x1 Z I L hZ hx hc hb kv0 h
set_option maxRecDepth 100000 in
def f_X11_who_b98 (B : Nat × Nat) (K29 : Nat → Int32 → Int32 → Int32 → Int32 → jZ → jI → jL → Prop) (Q : Int32 → jZ → jI → jL → Prop) (v0 : Nat) (v1 : Int32) (v2 : Int32) (v4 : Int32) (s0 : Int32) (s1 : Int32) (Z : jZ) (I : jI) (L : jL) : Prop := (∀ x2 : Int32, x2 = (s0 ||| s1) → f_X11_who_b100 B K29 Q v0 v1 v2 x2 v4 Z I L)
set_option maxHeartbeats 4000000 in
set_option maxRecDepth 100000 in
theorem m_X11_who_b98 {G : jG} {B : Nat × Nat} {Z0 : jZ} {Q : Int32 → jZ → jI → jL → Prop} (E : jE G cX11_who RX11 w_X11_who 6 (some .int) (jrm B 6 172 Z0) jRF) (EU : jEU G B Z0 (urtI B Z0 Q)) (K29 : Nat → Int32 → Int32 → Int32 → Int32 → jZ → jI → jL → Prop) (hK29 : ∀ (v0 : Nat) (v1 : Int32) (v2 : Int32) (v3 : Int32) (v4 : Int32) (Z : jZ) (I : jI) (L : jL), SH Z → jext Z0 Z → jle Z0 Z → jin B Z → jk Z v0 11 → K29 v0 v1 v2 v3 v4 Z I L → jJ G 6 29 [(0, .ref v0), (1, .int v1), (2, .int v2), (3, .int v3), (4, .int v4)] [] Z I L (jcz Z - jcz Z0) (jsz Z - jsz Z0)) (v0 : Nat) (v1 : Int32) (v2 : Int32) (v4 : Int32) (s0 : Int32) (s1 : Int32) (Z : jZ) (I : jI) (L : jL) (hZ : SH Z) (hx : jext Z0 Z) (hc : jle Z0 Z) (hb : jin B Z) (kv0 : jk Z v0 11) (h : f_X11_who_b98 B K29 Q v0 v1 v2 v4 s0 s1 Z I L) : jJ G 6 98 [(0, .ref v0), (1, .int v1), (2, .int v2), (4, .int v4)] [.int s1, .int s0] Z I L (jcz Z - jcz Z0) (jsz Z - jsz Z0) := by
  refine j_ior E dX11_who_98 ?_
  refine j_topi (fun x2 ex2 => ?_)
  have h := h x2 ex2
  refine j_istore_n E 3 [(3, .int x2), (0, .ref v0), (1, .int v1), (2, .int v2), (4, .int v4)] dX11_who_99 rfl (by decide) rfl ?_
  refine j_sub [1, 2, 3, 0, 4] rfl ?_
  exact m_X11_who_b100 E EU K29 hK29 v0 v1 v2 x2 v4 Z I L hZ hx hc hb kv0 h
set_option maxRecDepth 100000 in
def f_X11_who_L29 (B : Nat × Nat)  (Q : Int32 → jZ → jI → jL → Prop) : Nat → Nat → Int32 → Int32 → Int32 → Int32 → jZ → jI → jL → Prop
  | 0 => fun _ _ _ _ _ _ _ _ => False
  | n + 1 => fun v0 v1 v2 v3 v4 Z I L => (((I v0 4) ≤ v4 → Q v3 Z I L) ∧ (¬ ((I v0 4) ≤ v4) → (f_X11_find v0 v4 Z I L (fun r10 I6 L7 => ((r10 = none → f_X11_who_b100 B (f_X11_who_L29 B Q n) Q v0 v1 v2 v3 v4 Z I6 L7) ∧ (∀ b11 : Nat, r10 = some b11 → (∀ b13 : Nat, jr Z b11 8 = some b13 → (f_X6_lay b13 (I6 b11 3) (I6 b11 4) (-1 : Int32) Z I6 L7 (fun I16 L17 => (∀ b20 : Nat, jr Z v0 9 = some b20 → (∀ b21 : Nat, jr Z b11 8 = some b21 → (f_X0_tally B b20 b21 v1 v2 Z I16 L17 (fun r28 Z23 I24 L25 => (((lg_cmp r28 (0 : Int64)) ≤ 0 → f_X11_who_b98 B (f_X11_who_L29 B Q n) Q v0 v1 v2 v4 v3 (0 : Int32) Z23 I24 L25) ∧ (¬ ((lg_cmp r28 (0 : Int64)) ≤ 0) → f_X11_who_b98 B (f_X11_who_L29 B Q n) Q v0 v1 v2 v4 v3 ((1 : Int32) <<< (v4 &&& 31)) Z23 I24 L25)))))))))))))))
set_option maxHeartbeats 4000000 in
set_option maxRecDepth 100000 in
theorem m_X11_who_L29 {G : jG} {Z0 : jZ} {B : Nat × Nat} {Q : Int32 → jZ → jI → jL → Prop} (E : jE G cX11_who RX11 w_X11_who 6 (some .int) (jrm B 6 172 Z0) jRF) (EU : jEU G B Z0 (urtI B Z0 Q))  : ∀ (n : Nat) (v0 : Nat) (v1 : Int32) (v2 : Int32) (v3 : Int32) (v4 : Int32) (Z : jZ) (I : jI) (L : jL), SH Z → jext Z0 Z → jle Z0 Z → jin B Z → jk Z v0 11 → f_X11_who_L29 B  Q n v0 v1 v2 v3 v4 Z I L → jJ G 6 29 [(0, .ref v0), (1, .int v1), (2, .int v2), (3, .int v3), (4, .int v4)] [] Z I L (jcz Z - jcz Z0) (jsz Z - jsz Z0) := by
  intro n
  induction n with
  | zero => intro v0 v1 v2 v3 v4 Z I L _ _ _ _ _ h; exact h.elim
  | succ n ih =>
    intro v0 v1 v2 v3 v4 Z I L hZ hx hc hb kv0 h
    have h : (((I v0 4) ≤ v4 → Q v3 Z I L) ∧ (¬ ((I v0 4) ≤ v4) → (f_X11_find v0 v4 Z I L (fun r10 I6 L7 => ((r10 = none → f_X11_who_b100 B (f_X11_who_L29 B Q n) Q v0 v1 v2 v3 v4 Z I6 L7) ∧ (∀ b11 : Nat, r10 = some b11 → (∀ b13 : Nat, jr Z b11 8 = some b13 → (f_X6_lay b13 (I6 b11 3) (I6 b11 4) (-1 : Int32) Z I6 L7 (fun I16 L17 => (∀ b20 : Nat, jr Z v0 9 = some b20 → (∀ b21 : Nat, jr Z b11 8 = some b21 → (f_X0_tally B b20 b21 v1 v2 Z I16 L17 (fun r28 Z23 I24 L25 => (((lg_cmp r28 (0 : Int64)) ≤ 0 → f_X11_who_b98 B (f_X11_who_L29 B Q n) Q v0 v1 v2 v4 v3 (0 : Int32) Z23 I24 L25) ∧ (¬ ((lg_cmp r28 (0 : Int64)) ≤ 0) → f_X11_who_b98 B (f_X11_who_L29 B Q n) Q v0 v1 v2 v4 v3 ((1 : Int32) <<< (v4 &&& 31)) Z23 I24 L25))))))))))))))) := h
    obtain ⟨K29, eK29⟩ : ∃ K : Nat → Int32 → Int32 → Int32 → Int32 → jZ → jI → jL → Prop, K = f_X11_who_L29 B  Q n := ⟨_, rfl⟩
    have hK29 := ih
    clear eK29 K29
    generalize f_X11_who_L29 B  Q n = K29 at hK29 h
    refine j_iload E dX11_who_29 4 rfl ?_
    refine j_aload_n E dX11_who_31 0 rfl ?_
    refine j_geti E 11 4 rfl rfl (by decide) (by decide) (iw iT_11) rfl rfl (tw W_431) kv0 dX11_who_32 ?_
    refine j_icmp_ge E 106 dX11_who_35 (by decide) (fun c3 => ?_) (fun c3 => ?_)
    · have h := h.1 c3
      refine j_iload_n E dX11_who_106 3 rfl ?_
      exact ju_ireturn E EU hc hb ⟨hx, hZ, hb, _, rfl, h⟩ dX11_who_107
    · have h := h.2 c3
      refine j_aload_n E dX11_who_38 0 rfl ?_
      refine j_iload E dX11_who_39 4 rfl ?_
      refine j_callV E [.int v4] [] (c_X11_find (gL G) (gD G) (gY G) v0 v4 Z I L _ hZ kv0 h) (gwV W_437 W_438 W_439 W_40 W_436) rfl ⟨rfl, fy_X11_find⟩ ⟨Nat.le_of_ble_eq_true rfl, Nat.le_of_ble_eq_true rfl⟩ (c := 11) rfl (by decide) kv0 rfl rfl (Nat.le_of_ble_eq_true rfl) (ju_kn hb) dX11_who_41 (fun v4 Z5 I6 L7 q8 => ?_)
      obtain ⟨rfl, r10, rfl, zr10, h⟩ := q8
      show jJ G 6 44 [(0, .ref v0), (1, .int v1), (2, .int v2), (3, .int v3), (4, .int v4)] (va_rf r10 :: []) Z I6 L7 (jcz Z - jcz Z0) (jsz Z - jsz Z0)
      rcases c12 : r10 with _ | b11
      · have h := h.1 c12
        refine j_rfN rfl ?_
        refine j_astoreN E 5 [(5, .null), (0, .ref v0), (1, .int v1), (2, .int v2), (3, .int v3), (4, .int v4)] dX11_who_44 (by decide) rfl ?_
        refine j_aloadN E dX11_who_46 0 rfl ?_
        refine j_ifnullN E 100 dX11_who_48 (by decide) ?_
        refine j_sub [1, 2, 3, 4, 5] rfl ?_
        exact m_X11_who_b100 E EU K29 hK29 v0 v1 v2 v3 v4 Z I6 L7 hZ hx hc hb kv0 h
      · have h := h.2 b11 c12
        have kb11 := zr10 b11 c12
        refine j_rfS rfl ?_
        refine j_astore E 5 [(5, .ref b11), (0, .ref v0), (1, .int v1), (2, .int v2), (3, .int v3), (4, .int v4)] dX11_who_44 (by decide) rfl ?_
        refine j_aload E dX11_who_46 0 rfl ?_
        refine j_ifnull E dX11_who_48 ?_
        refine j_aload E dX11_who_51 0 rfl ?_
        obtain ⟨b13, eb13, kb13⟩ := sh_o hZ kb11 (j := 8) (k := 6) rfl
        have h := h b13 eb13
        refine j_getrN E 5 8 rfl rfl (by decide) (by decide) (iw iT_5) rfl rfl (nw_5_8_X11_263) kb11 eb13 dX11_who_53 ?_
        refine j_aload E dX11_who_56 0 rfl ?_
        refine j_getiN E 5 3 rfl rfl (by decide) (by decide) (iw iT_5) rfl rfl (nw_5_3_X11_213) kb11 dX11_who_58 ?_
        refine j_aload E dX11_who_61 0 rfl ?_
        refine j_getiN E 5 4 rfl rfl (by decide) (by decide) (iw iT_5) rfl rfl (nw_5_4_X11_196) kb11 dX11_who_63 ?_
        refine j_iconst E (v := -1) dX11_who_66 (by decide) ?_
        refine j_callV E [.int (I6 b11 3), .int (I6 b11 4), .int (-1 : Int32)] [] (c_X6_lay (gL G) (gD G) (gY G) b13 (I6 b11 3) (I6 b11 4) (-1 : Int32) Z I6 L7 _ hZ kb13 h) (gwV W_532 W_533 W_534 W_33 W_531) rfl ⟨rfl, fy_X6_lay⟩ ⟨Nat.le_of_ble_eq_true rfl, Nat.le_of_ble_eq_true rfl⟩ (c := 6) rfl (by decide) kb13 rfl rfl (Nat.le_of_ble_eq_true rfl) (ju_kn hb) dX11_who_67 (fun v14 Z15 I16 L17 q18 => ?_)
        obtain ⟨rfl, rfl, h⟩ := q18
        show jJ G 6 70 [(5, .ref b11), (0, .ref v0), (1, .int v1), (2, .int v2), (3, .int v3), (4, .int v4)] [] Z I16 L17 (jcz Z - jcz Z0) (jsz Z - jsz Z0)
        refine j_iload_n E dX11_who_70 4 rfl ?_
        refine j_aload_n E dX11_who_71 1 rfl ?_
        obtain ⟨b20, eb20, kb20⟩ := sh_o hZ kv0 (j := 9) (k := 0) rfl
        have h := h b20 eb20
        refine j_getr E 11 9 rfl rfl (by decide) (by decide) (iw iT_11) rfl rfl (tw W_544) kv0 eb20 dX11_who_72 ?_
        refine j_aload E dX11_who_75 0 rfl ?_
        obtain ⟨b21, eb21, kb21⟩ := sh_o hZ kb11 (j := 8) (k := 6) rfl
        have h := h b21 eb21
        refine j_getrN E 5 8 rfl rfl (by decide) (by decide) (iw iT_5) rfl rfl (nw_5_8_X11_263) kb11 eb21 dX11_who_77 ?_
        refine j_iload_n E dX11_who_80 2 rfl ?_
        refine j_iload_n E dX11_who_81 3 rfl ?_
        refine ju_callV E [.ref b21, .int v1, .int v2] [.int v3] (c_X0_tally (gL G) (gD G) (gY G) B b20 b21 v1 v2 Z I16 L17 _ hZ hb kb20 kb21 h) (gwV W_551 W_552 W_553 W_98 W_550) rfl ⟨rfl, fy_X0_tally⟩ ⟨Nat.le_of_ble_eq_true rfl, Nat.le_of_ble_eq_true rfl⟩ (c := 0) rfl (by decide) kb20 rfl rfl (Nat.le_of_ble_eq_true rfl) (ju_f hc hb) dX11_who_82 (fun v22 Z23 I24 L25 q26 j27 => ?_)
        refine ju_next hc j27 ?_
        have hc := jle_trans hc j27
        obtain ⟨yZ23, hZ23, hbZ23, r28, rfl, h⟩ := q26
        have hZ := hZ23
        have hx : jext Z0 Z23 := jext_trans hx yZ23
        have hb := hbZ23
        have k29 := (yZ23 _ _ kv0).1
        have k30 := (yZ23 _ _ kb11).1
        show jJ G 6 85 [(5, .ref b11), (0, .ref v0), (1, .int v1), (2, .int v2), (3, .int v3), (4, .int v4)] [.long r28, .int v3] Z23 I24 L25 (jcz Z23 - jcz Z0) (jsz Z23 - jsz Z0)
        refine j_lconst E (v := 0) dX11_who_85 (by decide) ?_
        refine j_lcmp E dX11_who_86 ?_
        refine j_if_le E 97 dX11_who_87 (by decide) (fun c31 => ?_) (fun c31 => ?_)
        · have h := h.1 c31
          refine j_iconst E (v := 0) dX11_who_97 (by decide) ?_
          refine j_sub [1, 2, 3, 5] rfl ?_
          exact m_X11_who_b98 E EU K29 hK29 v0 v1 v2 v4 v3 (0 : Int32) Z23 I24 L25 hZ hx hc hb k29 h
        · have h := h.2 c31
          refine j_iconst E (v := 1) dX11_who_90 (by decide) ?_
          refine j_iload E dX11_who_91 5 rfl ?_
          refine j_ishl E dX11_who_93 ?_
          refine j_goto E 98 dX11_who_94 (by decide) ?_
          refine j_sub [1, 2, 3, 5] rfl ?_
          exact m_X11_who_b98 E EU K29 hK29 v0 v1 v2 v4 v3 ((1 : Int32) <<< (v4 &&& 31)) Z23 I24 L25 hZ hx hc hb k29 h
set_option maxRecDepth 100000 in
def f_X11_who (B : Nat × Nat) (v0 : Nat) (v1 : Int32) (v2 : Int32) (Z : jZ) (I : jI) (L : jL) (Q : Int32 → jZ → jI → jL → Prop) : Prop := ((v1 < 0 → Q (-1 : Int32) Z I L) ∧ (¬ (v1 < 0) → (((999 : Int32) < v1 → Q (-1 : Int32) Z I L) ∧ (¬ ((999 : Int32) < v1) → (∀ b34 : Nat, jr Z v0 2 = some b34 → (f_X8_has b34 v2 Z I L (fun r41 I37 L38 => ((¬ r41 = 0 → (∃ m29 : Nat, f_X11_who_L29 B  Q m29 v0 v1 v2 (0 : Int32) (0 : Int32) Z I37 L38)) ∧ (r41 = 0 → Q (-1 : Int32) Z I37 L38)))))))))
set_option maxHeartbeats 4000000 in
set_option maxRecDepth 100000 in
theorem c_X11_who (l : Launch) (D : va_G) (cy : jC) (B : Nat × Nat) (v0 : Nat) (v1 : Int32) (v2 : Int32) (Z : jZ) (I : jI) (L : jL) (Q : Int32 → jZ → jI → jL → Prop) (hZ : SH Z) (hb : jin B Z) (kv0 : jk Z v0 11) (h : f_X11_who B v0 v1 v2 Z I L Q) : jCtU l yX11_who w_X11_who B 6 172 D cy [.ref v0, .int v1, .int v2] Z I L (urtI B Z Q) := by
  refine jCtU_of (cc := cX11_who) (maxL := 6) (ret := (some .int)) (by decide +kernel) rfl (Nat.le_of_ble_eq_true rfl) ?_
  intro G eD eY eL E EU
  subst eD; subst eY; subst eL
  have E : jE G cX11_who RX11 w_X11_who 6 (some .int) (jrm B 6 172 Z) jRF := E
  have hx : jext Z Z := jext_rfl
  have hc : jle Z Z := jle_rfl
  show jJ G 6 0 [(0, .ref v0), (1, .int v1), (2, .int v2)] [] Z I L (jcz Z - jcz Z) (jsz Z - jsz Z)
  refine j_iload_n E dX11_who_0 1 rfl ?_
  refine j_if_lt E 22 dX11_who_1 (by decide) (fun c32 => ?_) (fun c32 => ?_)
  · have h := h.1 c32
    refine j_iconst E (v := -1) dX11_who_22 (by decide) ?_
    exact ju_ireturn E EU hc hb ⟨hx, hZ, hb, _, rfl, h⟩ dX11_who_23
  · have h := h.2 c32
    refine j_iload_n E dX11_who_4 1 rfl ?_
    refine j_sipush E (v := 999) dX11_who_5 (by decide) ?_
    refine j_icmp_gt E 22 dX11_who_8 (by decide) (fun c33 => ?_) (fun c33 => ?_)
    · have h := h.1 c33
      refine j_iconst E (v := -1) dX11_who_22 (by decide) ?_
      exact ju_ireturn E EU hc hb ⟨hx, hZ, hb, _, rfl, h⟩ dX11_who_23
    · have h := h.2 c33
      refine j_aload_n E dX11_who_11 0 rfl ?_
      obtain ⟨b34, eb34, kb34⟩ := sh_o hZ kv0 (j := 2) (k := 8) rfl
      have h := h b34 eb34
      refine j_getr E 11 2 rfl rfl (by decide) (by decide) (iw iT_11) rfl rfl (tw W_454) kv0 eb34 dX11_who_12 ?_
      refine j_iload_n E dX11_who_15 2 rfl ?_
      refine j_callV E [.int v2] [] (c_X8_has (gL G) (gD G) (gY G) b34 v2 Z I L _ hZ kb34 h) (gwV W_463 W_256 W_257 W_254 W_253) rfl ⟨rfl, fy_X8_has⟩ ⟨Nat.le_of_ble_eq_true rfl, Nat.le_of_ble_eq_true rfl⟩ (c := 8) rfl (by decide) kb34 rfl rfl (Nat.le_of_ble_eq_true rfl) (ju_kn hb) dX11_who_16 (fun v35 Z36 I37 L38 q39 => ?_)
      obtain ⟨rfl, r41, rfl, zr41, h⟩ := q39
      show jJ G 6 19 [(0, .ref v0), (1, .int v1), (2, .int v2)] [.int r41] Z I37 L38 (jcz Z - jcz Z) (jsz Z - jsz Z)
      refine j_if_ne E 24 dX11_who_19 (by decide) (fun c42 => ?_) (fun c42 => ?_)
      · have h := h.1 c42
        refine j_iconst E (v := 0) dX11_who_24 (by decide) ?_
        refine j_istore_n E 3 [(3, .int (0 : Int32)), (0, .ref v0), (1, .int v1), (2, .int v2)] dX11_who_25 rfl (by decide) rfl ?_
        refine j_iconst E (v := 0) dX11_who_26 (by decide) ?_
        refine j_istore E 4 [(4, .int (0 : Int32)), (3, .int (0 : Int32)), (0, .ref v0), (1, .int v1), (2, .int v2)] dX11_who_27 (by decide) rfl ?_
        obtain ⟨n43, h⟩ := h
        refine j_sub [2, 3, 4, 1, 0] rfl ?_
        exact m_X11_who_L29 E EU  n43 v0 v1 v2 (0 : Int32) (0 : Int32) Z I37 L38 hZ hx hc hb kv0 h
      · have h := h.2 c42
        refine j_iconst E (v := -1) dX11_who_22 (by decide) ?_
        exact ju_ireturn E EU hc hb ⟨hx, hZ, hb, _, rfl, h⟩ dX11_who_23
set_option maxRecDepth 100000 in
def f_X11_next (B : Nat × Nat) (v0 : Nat) (v1 : Int32) (v2 : Int32) (Z : jZ) (I : jI) (L : jL) (Q : Int32 → jZ → jI → jL → Prop) : Prop := (f_X11_find v0 v1 Z I L (fun r7 I3 L4 => ((r7 = none → Q (-1 : Int32) Z I3 L4) ∧ (∀ b8 : Nat, r7 = some b8 → ((v2 < (-1 : Int32) → Q (-1 : Int32) Z I3 L4) ∧ (¬ (v2 < (-1 : Int32)) → (((999 : Int32) ≤ v2 → Q (-1 : Int32) Z I3 L4) ∧ (¬ ((999 : Int32) ≤ v2) → (∀ b12 : Nat, jr Z v0 2 = some b12 → ((¬ (I3 b12 9) = 0 → (∀ b14 : Nat, jr Z b8 8 = some b14 → (f_X6_lay b14 (I3 b8 3) (I3 b8 4) (-1 : Int32) Z I3 L4 (fun I17 L18 => (∀ b21 : Nat, jr Z v0 9 = some b21 → (∀ b22 : Nat, jr Z b8 8 = some b22 → (f_X0_firstAbove B b21 b22 v2 Z I17 L18 (fun r29 Z24 I25 L26 => ((¬ (lg_cmp r29 (9223372036854775807 : Int64)) = 0 → (f_X11_effortIn r29 Z24 I25 L26 (fun r39 I35 L36 => (f_X11_tellOne v0 (r39.toInt64) Z24 I35 L36 (fun I42 L43 => (f_X11_costIn r29 Z24 I42 L43 (fun r52 I48 L49 => Q r52 Z24 I48 L49))))))) ∧ ((lg_cmp r29 (9223372036854775807 : Int64)) = 0 → Q (-2 : Int32) Z24 I25 L26)))))))))) ∧ ((I3 b12 9) = 0 → Q (-1 : Int32) Z I3 L4)))))))))))
set_option maxHeartbeats 4000000 in
set_option maxRecDepth 100000 in
theorem c_X11_next (l : Launch) (D : va_G) (cy : jC) (B : Nat × Nat) (v0 : Nat) (v1 : Int32) (v2 : Int32) (Z : jZ) (I : jI) (L : jL) (Q : Int32 → jZ → jI → jL → Prop) (hZ : SH Z) (hb : jin B Z) (kv0 : jk Z v0 11) (h : f_X11_next B v0 v1 v2 Z I L Q) : jCtU l yX11_next w_X11_next B 6 150 D cy [.ref v0, .int v1, .int v2] Z I L (urtI B Z Q) := by
  refine jCtU_of (cc := cX11_next) (maxL := 6) (ret := (some .int)) (by decide +kernel) rfl (Nat.le_of_ble_eq_true rfl) ?_
  intro G eD eY eL E EU
  subst eD; subst eY; subst eL
  have E : jE G cX11_next RX11 w_X11_next 6 (some .int) (jrm B 6 150 Z) jRF := E
  have hx : jext Z Z := jext_rfl
  have hc : jle Z Z := jle_rfl
  show jJ G 6 0 [(0, .ref v0), (1, .int v1), (2, .int v2)] [] Z I L (jcz Z - jcz Z) (jsz Z - jsz Z)
  refine j_aload_n E dX11_next_0 0 rfl ?_
  refine j_iload_n E dX11_next_1 1 rfl ?_
  refine j_callV E [.int v1] [] (c_X11_find (gL G) (gD G) (gY G) v0 v1 Z I L _ hZ kv0 h) (gwV W_437 W_438 W_439 W_40 W_436) rfl ⟨rfl, fy_X11_find⟩ ⟨Nat.le_of_ble_eq_true rfl, Nat.le_of_ble_eq_true rfl⟩ (c := 11) rfl (by decide) kv0 rfl rfl (Nat.le_of_ble_eq_true rfl) (ju_kn hb) dX11_next_2 (fun v1 Z2 I3 L4 q5 => ?_)
  obtain ⟨rfl, r7, rfl, zr7, h⟩ := q5
  show jJ G 6 5 [(0, .ref v0), (1, .int v1), (2, .int v2)] (va_rf r7 :: []) Z I3 L4 (jcz Z - jcz Z) (jsz Z - jsz Z)
  rcases c9 : r7 with _ | b8
  · have h := h.1 c9
    refine j_rfN rfl ?_
    refine j_astore_nN E 3 [(3, .null), (0, .ref v0), (1, .int v1), (2, .int v2)] dX11_next_5 rfl (by decide) rfl ?_
    refine j_aload_nN E dX11_next_6 0 rfl ?_
    refine j_ifnullN E 32 dX11_next_7 (by decide) ?_
    refine j_iconst E (v := -1) dX11_next_32 (by decide) ?_
    exact ju_ireturn E EU hc hb ⟨hx, hZ, hb, _, rfl, h⟩ dX11_next_33
  · have h := h.2 b8 c9
    have kb8 := zr7 b8 c9
    refine j_rfS rfl ?_
    refine j_astore_n E 3 [(3, .ref b8), (0, .ref v0), (1, .int v1), (2, .int v2)] dX11_next_5 rfl (by decide) rfl ?_
    refine j_aload_n E dX11_next_6 0 rfl ?_
    refine j_ifnull E dX11_next_7 ?_
    refine j_iload_n E dX11_next_10 3 rfl ?_
    refine j_iconst E (v := -1) dX11_next_11 (by decide) ?_
    refine j_icmp_lt E 32 dX11_next_12 (by decide) (fun c10 => ?_) (fun c10 => ?_)
    · have h := h.1 c10
      refine j_iconst E (v := -1) dX11_next_32 (by decide) ?_
      exact ju_ireturn E EU hc hb ⟨hx, hZ, hb, _, rfl, h⟩ dX11_next_33
    · have h := h.2 c10
      refine j_iload_n E dX11_next_15 3 rfl ?_
      refine j_sipush E (v := 999) dX11_next_16 (by decide) ?_
      refine j_icmp_ge E 32 dX11_next_19 (by decide) (fun c11 => ?_) (fun c11 => ?_)
      · have h := h.1 c11
        refine j_iconst E (v := -1) dX11_next_32 (by decide) ?_
        exact ju_ireturn E EU hc hb ⟨hx, hZ, hb, _, rfl, h⟩ dX11_next_33
      · have h := h.2 c11
        refine j_aload_n E dX11_next_22 1 rfl ?_
        obtain ⟨b12, eb12, kb12⟩ := sh_o hZ kv0 (j := 2) (k := 8) rfl
        have h := h b12 eb12
        refine j_getr E 11 2 rfl rfl (by decide) (by decide) (iw iT_11) rfl rfl (tw W_454) kv0 eb12 dX11_next_23 ?_
        refine j_getiN E 8 9 rfl rfl (by decide) (by decide) (iw iT_8) rfl rfl (nw_8_9_X11_172) kb12 dX11_next_26 ?_
        refine j_if_ne E 34 dX11_next_29 (by decide) (fun c13 => ?_) (fun c13 => ?_)
        · have h := h.1 c13
          refine j_aload_n E dX11_next_34 0 rfl ?_
          obtain ⟨b14, eb14, kb14⟩ := sh_o hZ kb8 (j := 8) (k := 6) rfl
          have h := h b14 eb14
          refine j_getrN E 5 8 rfl rfl (by decide) (by decide) (iw iT_5) rfl rfl (nw_5_8_X11_263) kb8 eb14 dX11_next_35 ?_
          refine j_aload_n E dX11_next_38 0 rfl ?_
          refine j_getiN E 5 3 rfl rfl (by decide) (by decide) (iw iT_5) rfl rfl (nw_5_3_X11_213) kb8 dX11_next_39 ?_
          refine j_aload_n E dX11_next_42 0 rfl ?_
          refine j_getiN E 5 4 rfl rfl (by decide) (by decide) (iw iT_5) rfl rfl (nw_5_4_X11_196) kb8 dX11_next_43 ?_
          refine j_iconst E (v := -1) dX11_next_46 (by decide) ?_
          refine j_callV E [.int (I3 b8 3), .int (I3 b8 4), .int (-1 : Int32)] [] (c_X6_lay (gL G) (gD G) (gY G) b14 (I3 b8 3) (I3 b8 4) (-1 : Int32) Z I3 L4 _ hZ kb14 h) (gwV W_532 W_533 W_534 W_33 W_531) rfl ⟨rfl, fy_X6_lay⟩ ⟨Nat.le_of_ble_eq_true rfl, Nat.le_of_ble_eq_true rfl⟩ (c := 6) rfl (by decide) kb14 rfl rfl (Nat.le_of_ble_eq_true rfl) (ju_kn hb) dX11_next_47 (fun v15 Z16 I17 L18 q19 => ?_)
          obtain ⟨rfl, rfl, h⟩ := q19
          show jJ G 6 50 [(3, .ref b8), (0, .ref v0), (1, .int v1), (2, .int v2)] [] Z I17 L18 (jcz Z - jcz Z) (jsz Z - jsz Z)
          refine j_aload_n E dX11_next_50 1 rfl ?_
          obtain ⟨b21, eb21, kb21⟩ := sh_o hZ kv0 (j := 9) (k := 0) rfl
          have h := h b21 eb21
          refine j_getr E 11 9 rfl rfl (by decide) (by decide) (iw iT_11) rfl rfl (tw W_544) kv0 eb21 dX11_next_51 ?_
          refine j_aload_n E dX11_next_54 0 rfl ?_
          obtain ⟨b22, eb22, kb22⟩ := sh_o hZ kb8 (j := 8) (k := 6) rfl
          have h := h b22 eb22
          refine j_getrN E 5 8 rfl rfl (by decide) (by decide) (iw iT_5) rfl rfl (nw_5_8_X11_263) kb8 eb22 dX11_next_55 ?_
          refine j_iload_n E dX11_next_58 3 rfl ?_
          refine ju_callV E [.ref b22, .int v2] [] (c_X0_firstAbove (gL G) (gD G) (gY G) B b21 b22 v2 Z I17 L18 _ hZ hb kb21 kb22 h) (gwV W_559 W_560 W_561 W_98 W_558) rfl ⟨rfl, fy_X0_firstAbove⟩ ⟨Nat.le_of_ble_eq_true rfl, Nat.le_of_ble_eq_true rfl⟩ (c := 0) rfl (by decide) kb21 rfl rfl (Nat.le_of_ble_eq_true rfl) (ju_f hc hb) dX11_next_59 (fun v23 Z24 I25 L26 q27 j28 => ?_)
          refine ju_next hc j28 ?_
          have hc := jle_trans hc j28
          obtain ⟨yZ24, hZ24, hbZ24, r29, rfl, h⟩ := q27
          have hZ := hZ24
          have hx : jext Z Z24 := jext_trans hx yZ24
          have hb := hbZ24
          have k30 := (yZ24 _ _ kv0).1
          have k31 := (yZ24 _ _ kb8).1
          show jJ G 6 62 [(3, .ref b8), (0, .ref v0), (1, .int v1), (2, .int v2)] [.long r29] Z24 I25 L26 (jcz Z24 - jcz Z) (jsz Z24 - jsz Z)
          refine j_lstore E 4 [(4, .long r29), (3, .ref b8), (0, .ref v0), (1, .int v1), (2, .int v2)] dX11_next_62 (by decide) rfl ?_
          refine j_lload E dX11_next_64 0 rfl ?_
          refine j_ldc2 E (tw W_539) dX11_next_66 ?_
          refine j_lcmp E dX11_next_69 ?_
          refine j_if_ne E 76 dX11_next_70 (by decide) (fun c32 => ?_) (fun c32 => ?_)
          · have h := h.1 c32
            refine j_aload_n E dX11_next_76 2 rfl ?_
            refine j_lload E dX11_next_77 0 rfl ?_
            refine j_callS E [.long r29] [.ref v0] (c_X11_effortIn (gL G) (gD G) (gY G) r29 Z24 I25 L26 _ hZ  h) (gwS W_540 W_69 W_40 W_68) rfl fy_X11_effortIn ⟨Nat.le_of_ble_eq_true rfl, Nat.le_of_ble_eq_true rfl⟩ rfl rfl (Nat.le_of_ble_eq_true rfl) (ju_kn hb) dX11_next_79 (fun v33 Z34 I35 L36 q37 => ?_)
            obtain ⟨rfl, r39, rfl, h⟩ := q37
            show jJ G 6 82 [(4, .long r29), (3, .ref b8), (0, .ref v0), (1, .int v1), (2, .int v2)] [.int r39, .ref v0] Z24 I35 L36 (jcz Z24 - jcz Z) (jsz Z24 - jsz Z)
            refine j_i2l E dX11_next_82 ?_
            refine j_callV E [.long (r39.toInt64)] [] (c_X11_tellOne (gL G) (gD G) (gY G) v0 (r39.toInt64) Z24 I35 L36 _ hZ k30 h) (gwV W_492 W_493 W_494 W_40 W_491) rfl ⟨rfl, fy_X11_tellOne⟩ ⟨Nat.le_of_ble_eq_true rfl, Nat.le_of_ble_eq_true rfl⟩ (c := 11) rfl (by decide) k30 rfl rfl (Nat.le_of_ble_eq_true rfl) (ju_kn hb) dX11_next_83 (fun v40 Z41 I42 L43 q44 => ?_)
            obtain ⟨rfl, rfl, h⟩ := q44
            show jJ G 6 86 [(4, .long r29), (3, .ref b8), (0, .ref v0), (1, .int v1), (2, .int v2)] [] Z24 I42 L43 (jcz Z24 - jcz Z) (jsz Z24 - jsz Z)
            refine j_lload E dX11_next_86 0 rfl ?_
            refine j_callS E [.long r29] [] (c_X11_costIn (gL G) (gD G) (gY G) r29 Z24 I42 L43 _ hZ  h) (gwS W_529 W_67 W_40 W_66) rfl fy_X11_costIn ⟨Nat.le_of_ble_eq_true rfl, Nat.le_of_ble_eq_true rfl⟩ rfl rfl (Nat.le_of_ble_eq_true rfl) (ju_kn hb) dX11_next_88 (fun v46 Z47 I48 L49 q50 => ?_)
            obtain ⟨rfl, r52, rfl, h⟩ := q50
            show jJ G 6 91 [(4, .long r29), (3, .ref b8), (0, .ref v0), (1, .int v1), (2, .int v2)] [.int r52] Z24 I48 L49 (jcz Z24 - jcz Z) (jsz Z24 - jsz Z)
            exact ju_ireturn E EU hc hb ⟨hx, hZ, hb, _, rfl, h⟩ dX11_next_91
          · have h := h.2 c32
            refine j_bipush E (v := -2) dX11_next_73 (by decide) ?_
            exact ju_ireturn E EU hc hb ⟨hx, hZ, hb, _, rfl, h⟩ dX11_next_75
        · have h := h.2 c13
          refine j_iconst E (v := -1) dX11_next_32 (by decide) ?_
          exact ju_ireturn E EU hc hb ⟨hx, hZ, hb, _, rfl, h⟩ dX11_next_33
