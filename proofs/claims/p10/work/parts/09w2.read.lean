abbrev FTR3 : Type := Nat → Nat → Nat → Int32 → jZ → jI → jL → (jI → jL → Prop) → Prop
abbrev rR3 (d : Nat) : Room := { frames := d + 4, cells := 0, slots := 0, locals := 24 * d + 100 }
def HFR3 (sa sb : Nat) (l : Launch) (D : va_G) (cy : jC) (d : Nat) (F : FTR3) : Prop := (∀ (v0 : Nat) (v1 : Nat) (v2 : Int32) (Z : jZ) (I : jI) (L : jL) (Q : jI → jL → Prop), SH Z → jk Z v0 3 → jk Z v1 10 → F 0 v0 v1 v2 Z I L Q → jCtS sa sb l yX3_readExpression w_X3_readExpression (rR3 d) D cy [.ref v0, .ref v1, .int v2] Z I L (rtV Z Q)) ∧ (∀ (v0 : Nat) (v1 : Nat) (v2 : Int32) (Z : jZ) (I : jI) (L : jL) (Q : jI → jL → Prop), SH Z → jk Z v0 3 → jk Z v1 10 → F 1 v0 v1 v2 Z I L Q → jCtS sa sb l yX3_readSum w_X3_readSum (rR3 d) D cy [.ref v0, .ref v1, .int v2] Z I L (rtV Z Q)) ∧ (∀ (v0 : Nat) (v1 : Nat) (v2 : Int32) (Z : jZ) (I : jI) (L : jL) (Q : jI → jL → Prop), SH Z → jk Z v0 3 → jk Z v1 10 → F 2 v0 v1 v2 Z I L Q → jCtS sa sb l yX3_readProduct w_X3_readProduct (rR3 d) D cy [.ref v0, .ref v1, .int v2] Z I L (rtV Z Q)) ∧ (∀ (v0 : Nat) (v1 : Nat) (v2 : Int32) (Z : jZ) (I : jI) (L : jL) (Q : jI → jL → Prop), SH Z → jk Z v0 3 → jk Z v1 10 → F 3 v0 v1 v2 Z I L Q → jCtS sa sb l yX3_readSigned w_X3_readSigned (rR3 d) D cy [.ref v0, .ref v1, .int v2] Z I L (rtV Z Q)) ∧ (∀ (v0 : Nat) (v1 : Nat) (v2 : Int32) (Z : jZ) (I : jI) (L : jL) (Q : jI → jL → Prop), SH Z → jk Z v0 3 → jk Z v1 10 → F 4 v0 v1 v2 Z I L Q → jCtS sa sb l yX3_readThing w_X3_readThing (rR3 d) D cy [.ref v0, .ref v1, .int v2] Z I L (rtV Z Q))
set_option maxRecDepth 100000 in
def fs_X3_readThing_b113 (F : FTR3)  (Z : jZ) (Q : jI → jL → Prop) (v0 : Nat) (I : jI) (L : jL) : Prop := (∀ I1 : jI, I1 = jpI I v0 8 (I v0 6) → Q I1 L)
set_option maxHeartbeats 4000000 in
set_option maxRecDepth 100000 in
theorem ms_X3_readThing_b113 {G : jG} {sa sb : Nat} {d : Nat} {F : FTR3} {Z : jZ} {Q : jI → jL → Prop} (E : jE G cX3_readThing RX3 w_X3_readThing 5 none (rR3 (d + 1)) (rtV Z Q)) (hU : jU sa sb (gA G) (gS G) (gS G).heap) (hF : HFR3 sa sb (gL G) (gD G) (gY G) d F) (hZ : SH Z)  (v0 : Nat) (I : jI) (L : jL) (kv0 : jk Z v0 3) (h : fs_X3_readThing_b113 F  Z Q v0 I L) : jJ G 5 113 [(0, .ref v0)] [] Z I L 0 0 := by
  refine j_aload_n E dX3_readThing_113 0 rfl ?_
  refine j_aload_n E dX3_readThing_114 0 rfl ?_
  refine j_geti E 3 6 rfl rfl (by decide) (by decide) (iw iT_3) rfl rfl (tw W_186) kv0 dX3_readThing_115 ?_
  refine j_puti E 3 8 rfl rfl (by decide) (by decide) (iw iT_3) tyX3_ok nmX3 rfl rfl (tw W_197) rfl rfl rfl kv0 dX3_readThing_118 ?_
  refine j_nmI (fun I1 eI1 => ?_)
  have h := h I1 eI1
  exact j_return E ⟨rfl, rfl, h⟩ (Nat.zero_le _) (Nat.zero_le _) dX3_readThing_121
set_option maxRecDepth 100000 in
def fs_X3_readThing_b22 (F : FTR3)  (Z : jZ) (Q : jI → jL → Prop) (v0 : Nat) (v1 : Nat) (v2 : Int32) (v3 : Int32) (s0 : Int32) (I : jI) (L : jL) : Prop := (((I v0 8) = (-1 : Int32) → (f_X10_isDigit v3 Z I L (fun r9 I5 L6 => ((r9 = 0 → ((s0 < 0 → ((¬ v3 = (40 : Int32) → fs_X3_readThing_b113 F  Z Q v0 I5 L6) ∧ (v3 = (40 : Int32) → (((4 : Int32) ≤ v2 → fs_X3_readThing_b113 F  Z Q v0 I5 L6) ∧ (¬ ((4 : Int32) ≤ v2) → (∀ I14 : jI, I14 = jpI I5 v0 6 ((I5 v0 6) + (1 : Int32)) → (F 0 v0 v1 (v2 + (1 : Int32)) Z I14 L6 (fun I17 L18 => (f_X3_readClosing v0 v1 Z I17 L18 (fun I23 L24 => Q I23 L24)))))))))) ∧ (¬ (s0 < 0) → (∀ I27 : jI, I27 = jpI I5 v0 6 ((I5 v0 6) + (1 : Int32)) → (f_X3_emit v0 ((1000 : Int32) + s0) Z I27 L6 (fun I30 L31 => Q I30 L31)))))) ∧ (¬ (r9 = 0) → (f_X3_readNumber v0 v1 Z I5 L6 (fun I36 L37 => Q I36 L37))))))) ∧ (¬ ((I v0 8) = (-1 : Int32)) → Q I L))
set_option maxHeartbeats 4000000 in
set_option maxRecDepth 100000 in
theorem ms_X3_readThing_b22 {G : jG} {sa sb : Nat} {d : Nat} {F : FTR3} {Z : jZ} {Q : jI → jL → Prop} (E : jE G cX3_readThing RX3 w_X3_readThing 5 none (rR3 (d + 1)) (rtV Z Q)) (hU : jU sa sb (gA G) (gS G) (gS G).heap) (hF : HFR3 sa sb (gL G) (gD G) (gY G) d F) (hZ : SH Z)  (v0 : Nat) (v1 : Nat) (v2 : Int32) (v3 : Int32) (s0 : Int32) (I : jI) (L : jL) (kv0 : jk Z v0 3) (kv1 : jk Z v1 10) (h : fs_X3_readThing_b22 F  Z Q v0 v1 v2 v3 s0 I L) : jJ G 5 22 [(0, .ref v0), (1, .ref v1), (2, .int v2), (3, .int v3)] [.int s0] Z I L 0 0 := by
  refine j_istore E 4 [(4, .int s0), (0, .ref v0), (1, .ref v1), (2, .int v2), (3, .int v3)] dX3_readThing_22 (by decide) rfl ?_
  refine j_aload_n E dX3_readThing_24 1 rfl ?_
  refine j_geti E 3 8 rfl rfl (by decide) (by decide) (iw iT_3) rfl rfl (tw W_197) kv0 dX3_readThing_25 ?_
  refine j_iconst E (v := -1) dX3_readThing_28 (by decide) ?_
  refine j_icmp_eq E 33 dX3_readThing_29 (by decide) (fun c2 => ?_) (fun c2 => ?_)
  · have h := h.1 c2
    refine j_iload_n E dX3_readThing_33 4 rfl ?_
    refine j_callS E [.int v3] [] (c_X10_isDigit (gL G) (gD G) (gY G) v3 Z I L _ hZ  h) (gwS W_205 W_206 W_189 W_204) rfl fy_X10_isDigit ⟨by show 0 + 1 ≤ d + 1 + 4; omega, by show 8 + (1 + 11) + 0 ≤ 24 * (d + 1) + 100; omega⟩ rfl rfl (Nat.le_of_ble_eq_true rfl) ⟨Nat.zero_le _, Nat.zero_le _⟩ dX3_readThing_34 (fun v3 Z4 I5 L6 q7 => ?_)
    obtain ⟨rfl, r9, rfl, zr9, h⟩ := q7
    show jJ G 5 37 [(4, .int s0), (0, .ref v0), (1, .ref v1), (2, .int v2), (3, .int v3)] [.int r9] Z I5 L6 0 0
    refine j_if_eq E 48 dX3_readThing_37 (by decide) (fun c10 => ?_) (fun c10 => ?_)
    · have h := h.1 c10
      refine j_iload E dX3_readThing_48 0 rfl ?_
      refine j_if_lt E 76 dX3_readThing_50 (by decide) (fun c11 => ?_) (fun c11 => ?_)
      · have h := h.1 c11
        refine j_iload_n E dX3_readThing_76 4 rfl ?_
        refine j_bipush E (v := 40) dX3_readThing_77 (by decide) ?_
        refine j_icmp_ne E 113 dX3_readThing_79 (by decide) (fun c12 => ?_) (fun c12 => ?_)
        · have h := h.1 c12
          refine j_sub [1] rfl ?_
          exact ms_X3_readThing_b113 E hU hF hZ  v0 I5 L6 kv0 h
        · have h := h.2 c12
          refine j_iload_n E dX3_readThing_82 3 rfl ?_
          refine j_iconst E (v := 4) dX3_readThing_83 (by decide) ?_
          refine j_icmp_ge E 113 dX3_readThing_84 (by decide) (fun c13 => ?_) (fun c13 => ?_)
          · have h := h.1 c13
            refine j_sub [1] rfl ?_
            exact ms_X3_readThing_b113 E hU hF hZ  v0 I5 L6 kv0 h
          · have h := h.2 c13
            refine j_aload_n E dX3_readThing_87 1 rfl ?_
            refine j_dup E dX3_readThing_88 rfl ?_
            refine j_geti E 3 6 rfl rfl (by decide) (by decide) (iw iT_3) rfl rfl (tw W_186) kv0 dX3_readThing_89 ?_
            refine j_iconst E (v := 1) dX3_readThing_92 (by decide) ?_
            refine j_iadd E dX3_readThing_93 ?_
            refine j_puti E 3 6 rfl rfl (by decide) (by decide) (iw iT_3) tyX3_ok nmX3 rfl rfl (tw W_186) rfl rfl rfl kv0 dX3_readThing_94 ?_
            refine j_nmI (fun I14 eI14 => ?_)
            have h := h I14 eI14
            refine j_aload_n E dX3_readThing_97 1 rfl ?_
            refine j_aload_n E dX3_readThing_98 2 rfl ?_
            refine j_iload_n E dX3_readThing_99 3 rfl ?_
            refine j_iconst E (v := 1) dX3_readThing_100 (by decide) ?_
            refine j_iadd E dX3_readThing_101 ?_
            refine j_callVS E hU [.ref v1, .int (v2 + (1 : Int32))] [] (hF.1 v0 v1 (v2 + (1 : Int32)) Z I14 L6 _ hZ kv0 kv1 h) (gwV WS_1242 WS_1243 WS_1244 W_179 WS_1241) rfl ⟨rfl, fy_X3_readExpression⟩ ⟨by show d + 4 + 1 ≤ d + 1 + 4; omega, by show 8 + (4 + 11) + (24 * d + 100) ≤ 24 * (d + 1) + 100; omega⟩ (c := 3) rfl (by decide) kv0 rfl rfl (Nat.le_of_ble_eq_true rfl) ⟨Nat.zero_le _, Nat.zero_le _⟩ dX3_readThing_102 (fun v15 Z16 I17 L18 q19 => ?_)
            obtain ⟨rfl, rfl, h⟩ := q19
            show jJ G 5 105 [(4, .int s0), (0, .ref v0), (1, .ref v1), (2, .int v2), (3, .int v3)] [] Z I17 L18 0 0
            refine j_aload_n E dX3_readThing_105 1 rfl ?_
            refine j_aload_n E dX3_readThing_106 2 rfl ?_
            refine j_callV E [.ref v1] [] (c_X3_readClosing (gL G) (gD G) (gY G) v0 v1 Z I17 L18 _ hZ kv0 kv1 h) (gwV WS_1246 WS_1247 WS_1248 W_179 WS_1245) rfl ⟨rfl, fy_X3_readClosing⟩ ⟨by show 3 + 1 ≤ d + 1 + 4; omega, by show 8 + (2 + 11) + 66 ≤ 24 * (d + 1) + 100; omega⟩ (c := 3) rfl (by decide) kv0 rfl rfl (Nat.le_of_ble_eq_true rfl) ⟨Nat.zero_le _, Nat.zero_le _⟩ dX3_readThing_107 (fun v21 Z22 I23 L24 q25 => ?_)
            obtain ⟨rfl, rfl, h⟩ := q25
            show jJ G 5 110 [(4, .int s0), (0, .ref v0), (1, .ref v1), (2, .int v2), (3, .int v3)] [] Z I23 L24 0 0
            refine j_goto E 121 dX3_readThing_110 (by decide) ?_
            exact j_return E ⟨rfl, rfl, h⟩ (Nat.zero_le _) (Nat.zero_le _) dX3_readThing_121
      · have h := h.2 c11
        refine j_aload_n E dX3_readThing_53 1 rfl ?_
        refine j_dup E dX3_readThing_54 rfl ?_
        refine j_geti E 3 6 rfl rfl (by decide) (by decide) (iw iT_3) rfl rfl (tw W_186) kv0 dX3_readThing_55 ?_
        refine j_iconst E (v := 1) dX3_readThing_58 (by decide) ?_
        refine j_iadd E dX3_readThing_59 ?_
        refine j_puti E 3 6 rfl rfl (by decide) (by decide) (iw iT_3) tyX3_ok nmX3 rfl rfl (tw W_186) rfl rfl rfl kv0 dX3_readThing_60 ?_
        refine j_nmI (fun I27 eI27 => ?_)
        have h := h I27 eI27
        refine j_aload_n E dX3_readThing_63 1 rfl ?_
        refine j_sipush E (v := 1000) dX3_readThing_64 (by decide) ?_
        refine j_iload E dX3_readThing_67 0 rfl ?_
        refine j_iadd E dX3_readThing_69 ?_
        refine j_callV E [.int ((1000 : Int32) + s0)] [] (c_X3_emit (gL G) (gD G) (gY G) v0 ((1000 : Int32) + s0) Z I27 L6 _ hZ kv0 h) (gwV W_201 W_202 W_203 W_179 W_200) rfl ⟨rfl, fy_X3_emit⟩ ⟨by show 0 + 1 ≤ d + 1 + 4; omega, by show 8 + (2 + 11) + 0 ≤ 24 * (d + 1) + 100; omega⟩ (c := 3) rfl (by decide) kv0 rfl rfl (Nat.le_of_ble_eq_true rfl) ⟨Nat.zero_le _, Nat.zero_le _⟩ dX3_readThing_70 (fun v28 Z29 I30 L31 q32 => ?_)
        obtain ⟨rfl, rfl, h⟩ := q32
        show jJ G 5 73 [(4, .int s0), (0, .ref v0), (1, .ref v1), (2, .int v2), (3, .int v3)] [] Z I30 L31 0 0
        refine j_goto E 121 dX3_readThing_73 (by decide) ?_
        exact j_return E ⟨rfl, rfl, h⟩ (Nat.zero_le _) (Nat.zero_le _) dX3_readThing_121
    · have h := h.2 c10
      refine j_aload_n E dX3_readThing_40 1 rfl ?_
      refine j_aload_n E dX3_readThing_41 2 rfl ?_
      refine j_callV E [.ref v1] [] (c_X3_readNumber (gL G) (gD G) (gY G) v0 v1 Z I5 L6 _ hZ kv0 kv1 h) (gwV WS_1250 WS_1251 WS_1252 W_179 WS_1249) rfl ⟨rfl, fy_X3_readNumber⟩ ⟨by show 2 + 1 ≤ d + 1 + 4; omega, by show 8 + (4 + 11) + 42 ≤ 24 * (d + 1) + 100; omega⟩ (c := 3) rfl (by decide) kv0 rfl rfl (Nat.le_of_ble_eq_true rfl) ⟨Nat.zero_le _, Nat.zero_le _⟩ dX3_readThing_42 (fun v34 Z35 I36 L37 q38 => ?_)
      obtain ⟨rfl, rfl, h⟩ := q38
      show jJ G 5 45 [(4, .int s0), (0, .ref v0), (1, .ref v1), (2, .int v2), (3, .int v3)] [] Z I36 L37 0 0
      refine j_goto E 121 dX3_readThing_45 (by decide) ?_
      exact j_return E ⟨rfl, rfl, h⟩ (Nat.zero_le _) (Nat.zero_le _) dX3_readThing_121
  · have h := h.2 c2
    exact j_return E ⟨rfl, rfl, h⟩ (Nat.zero_le _) (Nat.zero_le _) dX3_readThing_32
set_option maxRecDepth 100000 in
def fs_X3_readThing (F : FTR3) (v0 : Nat) (v1 : Nat) (v2 : Int32) (Z : jZ) (I : jI) (L : jL) (Q : jI → jL → Prop) : Prop := (f_X3_look v0 v1 Z I L (fun r46 I42 L43 => ((¬ r46 = (-1 : Int32) → (∀ r48 : Int32, (-1 ≤ r48.toInt ∧ r48.toInt ≤ 6) → fs_X3_readThing_b22 F  Z Q v0 v1 v2 r46 r48 I42 L43)) ∧ (r46 = (-1 : Int32) → fs_X3_readThing_b22 F  Z Q v0 v1 v2 r46 (-1 : Int32) I42 L43))))
set_option maxHeartbeats 4000000 in
set_option maxRecDepth 100000 in
theorem cs_X3_readThing (l : Launch) (D : va_G) (cy : jC) {sa sb : Nat} {d : Nat} {F : FTR3} (hF : HFR3 sa sb l D cy d F) (v0 : Nat) (v1 : Nat) (v2 : Int32) (Z : jZ) (I : jI) (L : jL) (Q : jI → jL → Prop) (hZ : SH Z) (kv0 : jk Z v0 3) (kv1 : jk Z v1 10) (h : fs_X3_readThing F v0 v1 v2 Z I L Q) : jCtS sa sb l yX3_readThing w_X3_readThing (rR3 (d + 1)) D cy [.ref v0, .ref v1, .int v2] Z I L (rtV Z Q) := by
  refine jCtS_of (cc := cX3_readThing) (maxL := 5) (ret := none) (by decide +kernel) rfl (Nat.le_of_ble_eq_true rfl) ?_
  intro G eD eY eL E hU
  subst eD; subst eY; subst eL
  have E : jE G cX3_readThing RX3 w_X3_readThing 5 none (rR3 (d + 1)) (rtV Z Q) := E
  show jJ G 5 0 [(0, .ref v0), (1, .ref v1), (2, .int v2)] [] Z I L 0 0
  refine j_aload_n E dX3_readThing_0 0 rfl ?_
  refine j_aload_n E dX3_readThing_1 1 rfl ?_
  refine j_callV E [.ref v1] [] (c_X3_look (gL G) (gD G) (gY G) v0 v1 Z I L _ hZ kv0 kv1 h) (gwV W_194 W_195 W_196 W_179 W_193) rfl ⟨rfl, fy_X3_look⟩ ⟨by show 1 + 1 ≤ d + 1 + 4; omega, by show 8 + (2 + 11) + 21 ≤ 24 * (d + 1) + 100; omega⟩ (c := 3) rfl (by decide) kv0 rfl rfl (Nat.le_of_ble_eq_true rfl) ⟨Nat.zero_le _, Nat.zero_le _⟩ dX3_readThing_2 (fun v40 Z41 I42 L43 q44 => ?_)
  obtain ⟨rfl, r46, rfl, h⟩ := q44
  show jJ G 5 5 [(0, .ref v0), (1, .ref v1), (2, .int v2)] [.int r46] Z I42 L43 0 0
  refine j_istore_n E 3 [(3, .int r46), (0, .ref v0), (1, .ref v1), (2, .int v2)] dX3_readThing_5 rfl (by decide) rfl ?_
  refine j_iload_n E dX3_readThing_6 0 rfl ?_
  refine j_iconst E (v := -1) dX3_readThing_7 (by decide) ?_
  refine j_icmp_ne E 15 dX3_readThing_8 (by decide) (fun c47 => ?_) (fun c47 => ?_)
  · have h := h.1 c47
    refine j_ldcS E hU dX3_readThing_15 ?_
    refine j_iload_n E dX3_readThing_17 0 rfl ?_
    refine j_i2c E dX3_readThing_18 ?_
    refine j_callVT E hU [.int ((r46.toUInt32 % 65536).toInt32)] [] (cs_indexOf (gL G) (gD G) (gY G) Z I42 L43 ((r46.toUInt32 % 65536).toInt32)) (gwV WS_1253 WS_1254 WS_1255 WS_1224 WS_1256) rfl ⟨rfl, fy_J0_indexOf_0f7a4⟩ ⟨by show 3 + 1 ≤ d + 1 + 4; omega, by show 8 + (2 + 11) + 70 ≤ 24 * (d + 1) + 100; omega⟩ rfl rfl (Nat.le_of_ble_eq_true rfl) ⟨Nat.zero_le _, Nat.zero_le _⟩ dX3_readThing_19 (fun v49 Z50 I51 L52 q53 => ?_)
    obtain ⟨rfl, rfl, rfl, r48, rfl, er48⟩ := q53
    have h := h r48 er48
    show jJ G 5 22 [(3, .int r46), (0, .ref v0), (1, .ref v1), (2, .int v2)] [.int r48] Z I42 L43 0 0
    refine j_sub [1, 2, 3, 0] rfl ?_
    exact ms_X3_readThing_b22 E hU hF hZ  v0 v1 v2 r46 r48 I42 L43 kv0 kv1 h
  · have h := h.2 c47
    refine j_iconst E (v := -1) dX3_readThing_11 (by decide) ?_
    refine j_goto E 22 dX3_readThing_12 (by decide) ?_
    refine j_sub [1, 2, 3, 0] rfl ?_
    exact ms_X3_readThing_b22 E hU hF hZ  v0 v1 v2 r46 (-1 : Int32) I42 L43 kv0 kv1 h
set_option maxRecDepth 100000 in
def fs_X3_readSigned_b50 (F : FTR3)  (Z : jZ) (Q : jI → jL → Prop) (v0 : Nat) (v1 : Nat) (v2 : Int32) (v3 : Int32) (I : jI) (L : jL) : Prop := (F 4 v0 v1 v2 Z I L (fun I3 L4 => ((v3 = 0 → Q I3 L4) ∧ (¬ (v3 = 0) → (f_X3_emit v0 (2000 : Int32) Z I3 L4 (fun I10 L11 => Q I10 L11))))))
set_option maxHeartbeats 4000000 in
set_option maxRecDepth 100000 in
theorem ms_X3_readSigned_b50 {G : jG} {sa sb : Nat} {d : Nat} {F : FTR3} {Z : jZ} {Q : jI → jL → Prop} (E : jE G cX3_readSigned RX3 w_X3_readSigned 5 none (rR3 (d + 1)) (rtV Z Q)) (hU : jU sa sb (gA G) (gS G) (gS G).heap) (hF : HFR3 sa sb (gL G) (gD G) (gY G) d F) (hZ : SH Z)  (v0 : Nat) (v1 : Nat) (v2 : Int32) (v3 : Int32) (I : jI) (L : jL) (kv0 : jk Z v0 3) (kv1 : jk Z v1 10) (h : fs_X3_readSigned_b50 F  Z Q v0 v1 v2 v3 I L) : jJ G 5 50 [(0, .ref v0), (1, .ref v1), (2, .int v2), (3, .int v3)] [] Z I L 0 0 := by
  refine j_aload_n E dX3_readSigned_50 0 rfl ?_
  refine j_aload_n E dX3_readSigned_51 1 rfl ?_
  refine j_iload_n E dX3_readSigned_52 2 rfl ?_
  refine j_callVS E hU [.ref v1, .int v2] [] (hF.2.2.2.2 v0 v1 v2 Z I L _ hZ kv0 kv1 h) (gwV WS_1258 WS_1259 WS_1260 W_179 WS_1257) rfl ⟨rfl, fy_X3_readThing⟩ ⟨by show d + 4 + 1 ≤ d + 1 + 4; omega, by show 8 + (5 + 11) + (24 * d + 100) ≤ 24 * (d + 1) + 100; omega⟩ (c := 3) rfl (by decide) kv0 rfl rfl (Nat.le_of_ble_eq_true rfl) ⟨Nat.zero_le _, Nat.zero_le _⟩ dX3_readSigned_53 (fun v1 Z2 I3 L4 q5 => ?_)
  obtain ⟨rfl, rfl, h⟩ := q5
  show jJ G 5 56 [(0, .ref v0), (1, .ref v1), (2, .int v2), (3, .int v3)] [] Z I3 L4 0 0
  refine j_iload_n E dX3_readSigned_56 3 rfl ?_
  refine j_if_eq E 67 dX3_readSigned_57 (by decide) (fun c7 => ?_) (fun c7 => ?_)
  · have h := h.1 c7
    exact j_return E ⟨rfl, rfl, h⟩ (Nat.zero_le _) (Nat.zero_le _) dX3_readSigned_67
  · have h := h.2 c7
    refine j_aload_n E dX3_readSigned_60 0 rfl ?_
    refine j_sipush E (v := 2000) dX3_readSigned_61 (by decide) ?_
    refine j_callV E [.int (2000 : Int32)] [] (c_X3_emit (gL G) (gD G) (gY G) v0 (2000 : Int32) Z I3 L4 _ hZ kv0 h) (gwV W_201 W_202 W_203 W_179 W_200) rfl ⟨rfl, fy_X3_emit⟩ ⟨by show 0 + 1 ≤ d + 1 + 4; omega, by show 8 + (2 + 11) + 0 ≤ 24 * (d + 1) + 100; omega⟩ (c := 3) rfl (by decide) kv0 rfl rfl (Nat.le_of_ble_eq_true rfl) ⟨Nat.zero_le _, Nat.zero_le _⟩ dX3_readSigned_64 (fun v8 Z9 I10 L11 q12 => ?_)
    obtain ⟨rfl, rfl, h⟩ := q12
    show jJ G 5 67 [(0, .ref v0), (1, .ref v1), (2, .int v2), (3, .int v3)] [] Z I10 L11 0 0
    exact j_return E ⟨rfl, rfl, h⟩ (Nat.zero_le _) (Nat.zero_le _) dX3_readSigned_67
set_option maxRecDepth 100000 in
def fs_X3_readSigned_b33 (F : FTR3) (K5 : Nat → Nat → Int32 → Int32 → Int32 → jI → jL → Prop) (Z : jZ) (Q : jI → jL → Prop) (v0 : Nat) (v1 : Nat) (v2 : Int32) (v4 : Int32) (s0 : Int32) (I : jI) (L : jL) : Prop := (∀ I14 : jI, I14 = jpI I v0 6 ((I v0 6) + (1 : Int32)) → (∀ x15 : Int32, x15 = v4 + 1 → K5 v0 v1 v2 s0 x15 I14 L))
set_option maxHeartbeats 4000000 in
set_option maxRecDepth 100000 in
theorem ms_X3_readSigned_b33 {G : jG} {sa sb : Nat} {d : Nat} {F : FTR3} {Z : jZ} {Q : jI → jL → Prop} (E : jE G cX3_readSigned RX3 w_X3_readSigned 5 none (rR3 (d + 1)) (rtV Z Q)) (hU : jU sa sb (gA G) (gS G) (gS G).heap) (hF : HFR3 sa sb (gL G) (gD G) (gY G) d F) (hZ : SH Z) (K5 : Nat → Nat → Int32 → Int32 → Int32 → jI → jL → Prop) (hK5 : ∀ (v0 : Nat) (v1 : Nat) (v2 : Int32) (v3 : Int32) (v4 : Int32) (I : jI) (L : jL), jk Z v0 3 → jk Z v1 10 → K5 v0 v1 v2 v3 v4 I L → jJ G 5 5 [(0, .ref v0), (1, .ref v1), (2, .int v2), (3, .int v3), (4, .int v4)] [] Z I L 0 0) (v0 : Nat) (v1 : Nat) (v2 : Int32) (v4 : Int32) (s0 : Int32) (I : jI) (L : jL) (kv0 : jk Z v0 3) (kv1 : jk Z v1 10) (h : fs_X3_readSigned_b33 F K5 Z Q v0 v1 v2 v4 s0 I L) : jJ G 5 33 [(0, .ref v0), (1, .ref v1), (2, .int v2), (4, .int v4)] [.int s0] Z I L 0 0 := by
  refine j_istore_n E 3 [(3, .int s0), (0, .ref v0), (1, .ref v1), (2, .int v2), (4, .int v4)] dX3_readSigned_33 rfl (by decide) rfl ?_
  refine j_aload_n E dX3_readSigned_34 1 rfl ?_
  refine j_dup E dX3_readSigned_35 rfl ?_
  refine j_geti E 3 6 rfl rfl (by decide) (by decide) (iw iT_3) rfl rfl (tw W_186) kv0 dX3_readSigned_36 ?_
  refine j_iconst E (v := 1) dX3_readSigned_39 (by decide) ?_
  refine j_iadd E dX3_readSigned_40 ?_
  refine j_puti E 3 6 rfl rfl (by decide) (by decide) (iw iT_3) tyX3_ok nmX3 rfl rfl (tw W_186) rfl rfl rfl kv0 dX3_readSigned_41 ?_
  refine j_nmI (fun I14 eI14 => ?_)
  have h := h I14 eI14
  obtain ⟨x15, ex15⟩ : ∃ y : Int32, y = v4 + 1 := ⟨_, rfl⟩
  have h := h x15 ex15
  refine j_iinc E x15 [(4, .int x15), (3, .int s0), (0, .ref v0), (1, .ref v1), (2, .int v2)] dX3_readSigned_44 4 rfl (by rw [ex15]; rfl) (by decide) rfl ?_
  refine j_goto E 5 dX3_readSigned_47 (by decide) ?_
  refine j_sub [2, 3, 4, 1, 0] rfl ?_
  exact hK5 v0 v1 v2 s0 x15 I14 L kv0 kv1 h
set_option maxRecDepth 100000 in
def fs_X3_readSigned_L5 (F : FTR3)  (Z : jZ) (Q : jI → jL → Prop) : Nat → Nat → Nat → Int32 → Int32 → Int32 → jI → jL → Prop
  | 0 => fun _ _ _ _ _ _ _ => False
  | n + 1 => fun v0 v1 v2 v3 v4 I L => (((40 : Int32) ≤ v4 → fs_X3_readSigned_b50 F  Z Q v0 v1 v2 v3 I L) ∧ (¬ ((40 : Int32) ≤ v4) → (f_X3_isAhead v0 v1 (45 : Int32) (45 : Int32) Z I L (fun r23 I19 L20 => ((r23 = 0 → fs_X3_readSigned_b50 F  Z Q v0 v1 v2 v3 I19 L20) ∧ (¬ (r23 = 0) → ((¬ v3 = 0 → fs_X3_readSigned_b33 F (fs_X3_readSigned_L5 F Z Q n) Z Q v0 v1 v2 v4 (0 : Int32) I19 L20) ∧ (v3 = 0 → fs_X3_readSigned_b33 F (fs_X3_readSigned_L5 F Z Q n) Z Q v0 v1 v2 v4 (1 : Int32) I19 L20))))))))
set_option maxHeartbeats 4000000 in
set_option maxRecDepth 100000 in
theorem ms_X3_readSigned_L5 {G : jG} {sa sb : Nat} {d : Nat} {F : FTR3} {Z : jZ} {Q : jI → jL → Prop} (E : jE G cX3_readSigned RX3 w_X3_readSigned 5 none (rR3 (d + 1)) (rtV Z Q)) (hU : jU sa sb (gA G) (gS G) (gS G).heap) (hF : HFR3 sa sb (gL G) (gD G) (gY G) d F) (hZ : SH Z)  : ∀ (n : Nat) (v0 : Nat) (v1 : Nat) (v2 : Int32) (v3 : Int32) (v4 : Int32) (I : jI) (L : jL), jk Z v0 3 → jk Z v1 10 → fs_X3_readSigned_L5 F  Z Q n v0 v1 v2 v3 v4 I L → jJ G 5 5 [(0, .ref v0), (1, .ref v1), (2, .int v2), (3, .int v3), (4, .int v4)] [] Z I L 0 0 := by
  intro n
  induction n with
  | zero => intro v0 v1 v2 v3 v4 I L _ _ h; exact h.elim
  | succ n ih =>
    intro v0 v1 v2 v3 v4 I L kv0 kv1 h
    have h : (((40 : Int32) ≤ v4 → fs_X3_readSigned_b50 F  Z Q v0 v1 v2 v3 I L) ∧ (¬ ((40 : Int32) ≤ v4) → (f_X3_isAhead v0 v1 (45 : Int32) (45 : Int32) Z I L (fun r23 I19 L20 => ((r23 = 0 → fs_X3_readSigned_b50 F  Z Q v0 v1 v2 v3 I19 L20) ∧ (¬ (r23 = 0) → ((¬ v3 = 0 → fs_X3_readSigned_b33 F (fs_X3_readSigned_L5 F Z Q n) Z Q v0 v1 v2 v4 (0 : Int32) I19 L20) ∧ (v3 = 0 → fs_X3_readSigned_b33 F (fs_X3_readSigned_L5 F Z Q n) Z Q v0 v1 v2 v4 (1 : Int32) I19 L20)))))))) := h
    obtain ⟨K5, eK5⟩ : ∃ K : Nat → Nat → Int32 → Int32 → Int32 → jI → jL → Prop, K = fs_X3_readSigned_L5 F  Z Q n := ⟨_, rfl⟩
    have hK5 := ih
    clear eK5 K5
    generalize fs_X3_readSigned_L5 F  Z Q n = K5 at hK5 h
    refine j_iload E dX3_readSigned_5 4 rfl ?_
    refine j_bipush E (v := 40) dX3_readSigned_7 (by decide) ?_
    refine j_icmp_ge E 50 dX3_readSigned_9 (by decide) (fun c16 => ?_) (fun c16 => ?_)
    · have h := h.1 c16
      refine j_sub [0, 1, 2, 3] rfl ?_
      exact ms_X3_readSigned_b50 E hU hF hZ  v0 v1 v2 v3 I L kv0 kv1 h
    · have h := h.2 c16
      refine j_aload_n E dX3_readSigned_12 0 rfl ?_
      refine j_aload_n E dX3_readSigned_13 1 rfl ?_
      refine j_bipush E (v := 45) dX3_readSigned_14 (by decide) ?_
      refine j_bipush E (v := 45) dX3_readSigned_16 (by decide) ?_
      refine j_callV E [.ref v1, .int (45 : Int32), .int (45 : Int32)] [] (c_X3_isAhead (gL G) (gD G) (gY G) v0 v1 (45 : Int32) (45 : Int32) Z I L _ hZ kv0 kv1 h) (gwV W_208 W_209 W_210 W_179 W_207) rfl ⟨rfl, fy_X3_isAhead⟩ ⟨by show 2 + 1 ≤ d + 1 + 4; omega, by show 8 + (5 + 11) + 42 ≤ 24 * (d + 1) + 100; omega⟩ (c := 3) rfl (by decide) kv0 rfl rfl (Nat.le_of_ble_eq_true rfl) ⟨Nat.zero_le _, Nat.zero_le _⟩ dX3_readSigned_18 (fun v17 Z18 I19 L20 q21 => ?_)
      obtain ⟨rfl, r23, rfl, zr23, h⟩ := q21
      show jJ G 5 21 [(0, .ref v0), (1, .ref v1), (2, .int v2), (3, .int v3), (4, .int v4)] [.int r23] Z I19 L20 0 0
      refine j_if_eq E 50 dX3_readSigned_21 (by decide) (fun c24 => ?_) (fun c24 => ?_)
      · have h := h.1 c24
        refine j_sub [0, 1, 2, 3] rfl ?_
        exact ms_X3_readSigned_b50 E hU hF hZ  v0 v1 v2 v3 I19 L20 kv0 kv1 h
      · have h := h.2 c24
        refine j_iload_n E dX3_readSigned_24 3 rfl ?_
        refine j_if_ne E 32 dX3_readSigned_25 (by decide) (fun c25 => ?_) (fun c25 => ?_)
        · have h := h.1 c25
          refine j_iconst E (v := 0) dX3_readSigned_32 (by decide) ?_
          refine j_sub [0, 1, 2, 4] rfl ?_
          exact ms_X3_readSigned_b33 E hU hF hZ K5 hK5 v0 v1 v2 v4 (0 : Int32) I19 L20 kv0 kv1 h
        · have h := h.2 c25
          refine j_iconst E (v := 1) dX3_readSigned_28 (by decide) ?_
          refine j_goto E 33 dX3_readSigned_29 (by decide) ?_
          refine j_sub [0, 1, 2, 4] rfl ?_
          exact ms_X3_readSigned_b33 E hU hF hZ K5 hK5 v0 v1 v2 v4 (1 : Int32) I19 L20 kv0 kv1 h
set_option maxRecDepth 100000 in
def fs_X3_readSigned (F : FTR3) (v0 : Nat) (v1 : Nat) (v2 : Int32) (Z : jZ) (I : jI) (L : jL) (Q : jI → jL → Prop) : Prop := (∃ m5 : Nat, fs_X3_readSigned_L5 F  Z Q m5 v0 v1 v2 (0 : Int32) (0 : Int32) I L)
set_option maxHeartbeats 4000000 in
set_option maxRecDepth 100000 in
theorem cs_X3_readSigned (l : Launch) (D : va_G) (cy : jC) {sa sb : Nat} {d : Nat} {F : FTR3} (hF : HFR3 sa sb l D cy d F) (v0 : Nat) (v1 : Nat) (v2 : Int32) (Z : jZ) (I : jI) (L : jL) (Q : jI → jL → Prop) (hZ : SH Z) (kv0 : jk Z v0 3) (kv1 : jk Z v1 10) (h : fs_X3_readSigned F v0 v1 v2 Z I L Q) : jCtS sa sb l yX3_readSigned w_X3_readSigned (rR3 (d + 1)) D cy [.ref v0, .ref v1, .int v2] Z I L (rtV Z Q) := by
  refine jCtS_of (cc := cX3_readSigned) (maxL := 5) (ret := none) (by decide +kernel) rfl (Nat.le_of_ble_eq_true rfl) ?_
  intro G eD eY eL E hU
  subst eD; subst eY; subst eL
  have E : jE G cX3_readSigned RX3 w_X3_readSigned 5 none (rR3 (d + 1)) (rtV Z Q) := E
  show jJ G 5 0 [(0, .ref v0), (1, .ref v1), (2, .int v2)] [] Z I L 0 0
  refine j_iconst E (v := 0) dX3_readSigned_0 (by decide) ?_
  refine j_istore_n E 3 [(3, .int (0 : Int32)), (0, .ref v0), (1, .ref v1), (2, .int v2)] dX3_readSigned_1 rfl (by decide) rfl ?_
  refine j_iconst E (v := 0) dX3_readSigned_2 (by decide) ?_
  refine j_istore E 4 [(4, .int (0 : Int32)), (3, .int (0 : Int32)), (0, .ref v0), (1, .ref v1), (2, .int v2)] dX3_readSigned_3 (by decide) rfl ?_
  obtain ⟨n26, h⟩ := h
  refine j_sub [2, 3, 4, 1, 0] rfl ?_
  exact ms_X3_readSigned_L5 E hU hF hZ  n26 v0 v1 v2 (0 : Int32) (0 : Int32) I L kv0 kv1 h
set_option maxRecDepth 100000 in
def fs_X3_readProduct_L8 (F : FTR3)  (Z : jZ) (Q : jI → jL → Prop) : Nat → Nat → Nat → Int32 → Int32 → jI → jL → Prop
  | 0 => fun _ _ _ _ _ _ => False
  | n + 1 => fun v0 v1 v2 v3 I L => (((40 : Int32) ≤ v3 → Q I L) ∧ (¬ ((40 : Int32) ≤ v3) → (f_X3_isAhead v0 v1 (42 : Int32) (47 : Int32) Z I L (fun r8 I4 L5 => ((r8 = 0 → Q I4 L5) ∧ (¬ (r8 = 0) → (f_X3_look v0 v1 Z I4 L5 (fun r16 I12 L13 => (∀ I17 : jI, I17 = jpI I12 v0 6 ((I12 v0 6) + (1 : Int32)) → (F 3 v0 v1 v2 Z I17 L13 (fun I20 L21 => (f_X3_emit v0 ((2000 : Int32) + r16) Z I20 L21 (fun I26 L27 => (∀ x30 : Int32, x30 = v3 + 1 → (fs_X3_readProduct_L8 F Z Q n) v0 v1 v2 x30 I26 L27))))))))))))))
set_option maxHeartbeats 4000000 in
set_option maxRecDepth 100000 in
theorem ms_X3_readProduct_L8 {G : jG} {sa sb : Nat} {d : Nat} {F : FTR3} {Z : jZ} {Q : jI → jL → Prop} (E : jE G cX3_readProduct RX3 w_X3_readProduct 5 none (rR3 (d + 1)) (rtV Z Q)) (hU : jU sa sb (gA G) (gS G) (gS G).heap) (hF : HFR3 sa sb (gL G) (gD G) (gY G) d F) (hZ : SH Z)  : ∀ (n : Nat) (v0 : Nat) (v1 : Nat) (v2 : Int32) (v3 : Int32) (I : jI) (L : jL), jk Z v0 3 → jk Z v1 10 → fs_X3_readProduct_L8 F  Z Q n v0 v1 v2 v3 I L → jJ G 5 8 [(0, .ref v0), (1, .ref v1), (2, .int v2), (3, .int v3)] [] Z I L 0 0 := by
  intro n
  induction n with
  | zero => intro v0 v1 v2 v3 I L _ _ h; exact h.elim
  | succ n ih =>
    intro v0 v1 v2 v3 I L kv0 kv1 h
    have h : (((40 : Int32) ≤ v3 → Q I L) ∧ (¬ ((40 : Int32) ≤ v3) → (f_X3_isAhead v0 v1 (42 : Int32) (47 : Int32) Z I L (fun r8 I4 L5 => ((r8 = 0 → Q I4 L5) ∧ (¬ (r8 = 0) → (f_X3_look v0 v1 Z I4 L5 (fun r16 I12 L13 => (∀ I17 : jI, I17 = jpI I12 v0 6 ((I12 v0 6) + (1 : Int32)) → (F 3 v0 v1 v2 Z I17 L13 (fun I20 L21 => (f_X3_emit v0 ((2000 : Int32) + r16) Z I20 L21 (fun I26 L27 => (∀ x30 : Int32, x30 = v3 + 1 → (fs_X3_readProduct_L8 F Z Q n) v0 v1 v2 x30 I26 L27)))))))))))))) := h
    obtain ⟨K8, eK8⟩ : ∃ K : Nat → Nat → Int32 → Int32 → jI → jL → Prop, K = fs_X3_readProduct_L8 F  Z Q n := ⟨_, rfl⟩
    have hK8 := ih
    clear eK8 K8
    generalize fs_X3_readProduct_L8 F  Z Q n = K8 at hK8 h
    refine j_iload_n E dX3_readProduct_8 3 rfl ?_
    refine j_bipush E (v := 40) dX3_readProduct_9 (by decide) ?_
    refine j_icmp_ge E 65 dX3_readProduct_11 (by decide) (fun c1 => ?_) (fun c1 => ?_)
    · have h := h.1 c1
      exact j_return E ⟨rfl, rfl, h⟩ (Nat.zero_le _) (Nat.zero_le _) dX3_readProduct_65
    · have h := h.2 c1
      refine j_aload_n E dX3_readProduct_14 0 rfl ?_
      refine j_aload_n E dX3_readProduct_15 1 rfl ?_
      refine j_bipush E (v := 42) dX3_readProduct_16 (by decide) ?_
      refine j_bipush E (v := 47) dX3_readProduct_18 (by decide) ?_
      refine j_callV E [.ref v1, .int (42 : Int32), .int (47 : Int32)] [] (c_X3_isAhead (gL G) (gD G) (gY G) v0 v1 (42 : Int32) (47 : Int32) Z I L _ hZ kv0 kv1 h) (gwV W_208 W_209 W_210 W_179 W_207) rfl ⟨rfl, fy_X3_isAhead⟩ ⟨by show 2 + 1 ≤ d + 1 + 4; omega, by show 8 + (5 + 11) + 42 ≤ 24 * (d + 1) + 100; omega⟩ (c := 3) rfl (by decide) kv0 rfl rfl (Nat.le_of_ble_eq_true rfl) ⟨Nat.zero_le _, Nat.zero_le _⟩ dX3_readProduct_20 (fun v2 Z3 I4 L5 q6 => ?_)
      obtain ⟨rfl, r8, rfl, zr8, h⟩ := q6
      show jJ G 5 23 [(0, .ref v0), (1, .ref v1), (2, .int v2), (3, .int v3)] [.int r8] Z I4 L5 0 0
      refine j_if_eq E 65 dX3_readProduct_23 (by decide) (fun c9 => ?_) (fun c9 => ?_)
      · have h := h.1 c9
        exact j_return E ⟨rfl, rfl, h⟩ (Nat.zero_le _) (Nat.zero_le _) dX3_readProduct_65
      · have h := h.2 c9
        refine j_aload_n E dX3_readProduct_26 0 rfl ?_
        refine j_aload_n E dX3_readProduct_27 1 rfl ?_
        refine j_callV E [.ref v1] [] (c_X3_look (gL G) (gD G) (gY G) v0 v1 Z I4 L5 _ hZ kv0 kv1 h) (gwV W_194 W_195 W_196 W_179 W_193) rfl ⟨rfl, fy_X3_look⟩ ⟨by show 1 + 1 ≤ d + 1 + 4; omega, by show 8 + (2 + 11) + 21 ≤ 24 * (d + 1) + 100; omega⟩ (c := 3) rfl (by decide) kv0 rfl rfl (Nat.le_of_ble_eq_true rfl) ⟨Nat.zero_le _, Nat.zero_le _⟩ dX3_readProduct_28 (fun v10 Z11 I12 L13 q14 => ?_)
        obtain ⟨rfl, r16, rfl, h⟩ := q14
        show jJ G 5 31 [(0, .ref v0), (1, .ref v1), (2, .int v2), (3, .int v3)] [.int r16] Z I12 L13 0 0
        refine j_istore E 4 [(4, .int r16), (0, .ref v0), (1, .ref v1), (2, .int v2), (3, .int v3)] dX3_readProduct_31 (by decide) rfl ?_
        refine j_aload_n E dX3_readProduct_33 1 rfl ?_
        refine j_dup E dX3_readProduct_34 rfl ?_
        refine j_geti E 3 6 rfl rfl (by decide) (by decide) (iw iT_3) rfl rfl (tw W_186) kv0 dX3_readProduct_35 ?_
        refine j_iconst E (v := 1) dX3_readProduct_38 (by decide) ?_
        refine j_iadd E dX3_readProduct_39 ?_
        refine j_puti E 3 6 rfl rfl (by decide) (by decide) (iw iT_3) tyX3_ok nmX3 rfl rfl (tw W_186) rfl rfl rfl kv0 dX3_readProduct_40 ?_
        refine j_nmI (fun I17 eI17 => ?_)
        have h := h I17 eI17
        refine j_aload_n E dX3_readProduct_43 1 rfl ?_
        refine j_aload_n E dX3_readProduct_44 2 rfl ?_
        refine j_iload_n E dX3_readProduct_45 3 rfl ?_
        refine j_callVS E hU [.ref v1, .int v2] [] (hF.2.2.2.1 v0 v1 v2 Z I17 L13 _ hZ kv0 kv1 h) (gwV WS_1262 WS_1263 WS_1264 W_179 WS_1261) rfl ⟨rfl, fy_X3_readSigned⟩ ⟨by show d + 4 + 1 ≤ d + 1 + 4; omega, by show 8 + (5 + 11) + (24 * d + 100) ≤ 24 * (d + 1) + 100; omega⟩ (c := 3) rfl (by decide) kv0 rfl rfl (Nat.le_of_ble_eq_true rfl) ⟨Nat.zero_le _, Nat.zero_le _⟩ dX3_readProduct_46 (fun v18 Z19 I20 L21 q22 => ?_)
        obtain ⟨rfl, rfl, h⟩ := q22
        show jJ G 5 49 [(4, .int r16), (0, .ref v0), (1, .ref v1), (2, .int v2), (3, .int v3)] [] Z I20 L21 0 0
        refine j_aload_n E dX3_readProduct_49 1 rfl ?_
        refine j_sipush E (v := 2000) dX3_readProduct_50 (by decide) ?_
        refine j_iload E dX3_readProduct_53 0 rfl ?_
        refine j_iadd E dX3_readProduct_55 ?_
        refine j_callV E [.int ((2000 : Int32) + r16)] [] (c_X3_emit (gL G) (gD G) (gY G) v0 ((2000 : Int32) + r16) Z I20 L21 _ hZ kv0 h) (gwV W_201 W_202 W_203 W_179 W_200) rfl ⟨rfl, fy_X3_emit⟩ ⟨by show 0 + 1 ≤ d + 1 + 4; omega, by show 8 + (2 + 11) + 0 ≤ 24 * (d + 1) + 100; omega⟩ (c := 3) rfl (by decide) kv0 rfl rfl (Nat.le_of_ble_eq_true rfl) ⟨Nat.zero_le _, Nat.zero_le _⟩ dX3_readProduct_56 (fun v24 Z25 I26 L27 q28 => ?_)
        obtain ⟨rfl, rfl, h⟩ := q28
        show jJ G 5 59 [(4, .int r16), (0, .ref v0), (1, .ref v1), (2, .int v2), (3, .int v3)] [] Z I26 L27 0 0
        obtain ⟨x30, ex30⟩ : ∃ y : Int32, y = v3 + 1 := ⟨_, rfl⟩
        have h := h x30 ex30
        refine j_iinc E x30 [(3, .int x30), (4, .int r16), (0, .ref v0), (1, .ref v1), (2, .int v2)] dX3_readProduct_59 4 rfl (by rw [ex30]; rfl) (by decide) rfl ?_
        refine j_goto E 8 dX3_readProduct_62 (by decide) ?_
        refine j_sub [2, 3, 4, 0] rfl ?_
        exact hK8 v0 v1 v2 x30 I26 L27 kv0 kv1 h
set_option maxRecDepth 100000 in
def fs_X3_readProduct (F : FTR3) (v0 : Nat) (v1 : Nat) (v2 : Int32) (Z : jZ) (I : jI) (L : jL) (Q : jI → jL → Prop) : Prop := (F 3 v0 v1 v2 Z I L (fun I33 L34 => (∃ m8 : Nat, fs_X3_readProduct_L8 F  Z Q m8 v0 v1 v2 (0 : Int32) I33 L34)))
set_option maxHeartbeats 4000000 in
set_option maxRecDepth 100000 in
theorem cs_X3_readProduct (l : Launch) (D : va_G) (cy : jC) {sa sb : Nat} {d : Nat} {F : FTR3} (hF : HFR3 sa sb l D cy d F) (v0 : Nat) (v1 : Nat) (v2 : Int32) (Z : jZ) (I : jI) (L : jL) (Q : jI → jL → Prop) (hZ : SH Z) (kv0 : jk Z v0 3) (kv1 : jk Z v1 10) (h : fs_X3_readProduct F v0 v1 v2 Z I L Q) : jCtS sa sb l yX3_readProduct w_X3_readProduct (rR3 (d + 1)) D cy [.ref v0, .ref v1, .int v2] Z I L (rtV Z Q) := by
  refine jCtS_of (cc := cX3_readProduct) (maxL := 5) (ret := none) (by decide +kernel) rfl (Nat.le_of_ble_eq_true rfl) ?_
  intro G eD eY eL E hU
  subst eD; subst eY; subst eL
  have E : jE G cX3_readProduct RX3 w_X3_readProduct 5 none (rR3 (d + 1)) (rtV Z Q) := E
  show jJ G 5 0 [(0, .ref v0), (1, .ref v1), (2, .int v2)] [] Z I L 0 0
  refine j_aload_n E dX3_readProduct_0 0 rfl ?_
  refine j_aload_n E dX3_readProduct_1 1 rfl ?_
  refine j_iload_n E dX3_readProduct_2 2 rfl ?_
  refine j_callVS E hU [.ref v1, .int v2] [] (hF.2.2.2.1 v0 v1 v2 Z I L _ hZ kv0 kv1 h) (gwV WS_1262 WS_1263 WS_1264 W_179 WS_1261) rfl ⟨rfl, fy_X3_readSigned⟩ ⟨by show d + 4 + 1 ≤ d + 1 + 4; omega, by show 8 + (5 + 11) + (24 * d + 100) ≤ 24 * (d + 1) + 100; omega⟩ (c := 3) rfl (by decide) kv0 rfl rfl (Nat.le_of_ble_eq_true rfl) ⟨Nat.zero_le _, Nat.zero_le _⟩ dX3_readProduct_3 (fun v31 Z32 I33 L34 q35 => ?_)
  obtain ⟨rfl, rfl, h⟩ := q35
  show jJ G 5 6 [(0, .ref v0), (1, .ref v1), (2, .int v2)] [] Z I33 L34 0 0
  refine j_iconst E (v := 0) dX3_readProduct_6 (by decide) ?_
  refine j_istore_n E 3 [(3, .int (0 : Int32)), (0, .ref v0), (1, .ref v1), (2, .int v2)] dX3_readProduct_7 rfl (by decide) rfl ?_
  obtain ⟨n37, h⟩ := h
  refine j_sub [1, 2, 3, 0] rfl ?_
  exact ms_X3_readProduct_L8 E hU hF hZ  n37 v0 v1 v2 (0 : Int32) I33 L34 kv0 kv1 h
set_option maxRecDepth 100000 in
def fs_X3_readSum_L8 (F : FTR3)  (Z : jZ) (Q : jI → jL → Prop) : Nat → Nat → Nat → Int32 → Int32 → jI → jL → Prop
  | 0 => fun _ _ _ _ _ _ => False
  | n + 1 => fun v0 v1 v2 v3 I L => (((40 : Int32) ≤ v3 → Q I L) ∧ (¬ ((40 : Int32) ≤ v3) → (f_X3_isAhead v0 v1 (43 : Int32) (45 : Int32) Z I L (fun r8 I4 L5 => ((r8 = 0 → Q I4 L5) ∧ (¬ (r8 = 0) → (f_X3_look v0 v1 Z I4 L5 (fun r16 I12 L13 => (∀ I17 : jI, I17 = jpI I12 v0 6 ((I12 v0 6) + (1 : Int32)) → (F 2 v0 v1 v2 Z I17 L13 (fun I20 L21 => (f_X3_emit v0 ((2000 : Int32) + r16) Z I20 L21 (fun I26 L27 => (∀ x30 : Int32, x30 = v3 + 1 → (fs_X3_readSum_L8 F Z Q n) v0 v1 v2 x30 I26 L27))))))))))))))
set_option maxHeartbeats 4000000 in
set_option maxRecDepth 100000 in
theorem ms_X3_readSum_L8 {G : jG} {sa sb : Nat} {d : Nat} {F : FTR3} {Z : jZ} {Q : jI → jL → Prop} (E : jE G cX3_readSum RX3 w_X3_readSum 5 none (rR3 (d + 1)) (rtV Z Q)) (hU : jU sa sb (gA G) (gS G) (gS G).heap) (hF : HFR3 sa sb (gL G) (gD G) (gY G) d F) (hZ : SH Z)  : ∀ (n : Nat) (v0 : Nat) (v1 : Nat) (v2 : Int32) (v3 : Int32) (I : jI) (L : jL), jk Z v0 3 → jk Z v1 10 → fs_X3_readSum_L8 F  Z Q n v0 v1 v2 v3 I L → jJ G 5 8 [(0, .ref v0), (1, .ref v1), (2, .int v2), (3, .int v3)] [] Z I L 0 0 := by
  intro n
  induction n with
  | zero => intro v0 v1 v2 v3 I L _ _ h; exact h.elim
  | succ n ih =>
    intro v0 v1 v2 v3 I L kv0 kv1 h
    have h : (((40 : Int32) ≤ v3 → Q I L) ∧ (¬ ((40 : Int32) ≤ v3) → (f_X3_isAhead v0 v1 (43 : Int32) (45 : Int32) Z I L (fun r8 I4 L5 => ((r8 = 0 → Q I4 L5) ∧ (¬ (r8 = 0) → (f_X3_look v0 v1 Z I4 L5 (fun r16 I12 L13 => (∀ I17 : jI, I17 = jpI I12 v0 6 ((I12 v0 6) + (1 : Int32)) → (F 2 v0 v1 v2 Z I17 L13 (fun I20 L21 => (f_X3_emit v0 ((2000 : Int32) + r16) Z I20 L21 (fun I26 L27 => (∀ x30 : Int32, x30 = v3 + 1 → (fs_X3_readSum_L8 F Z Q n) v0 v1 v2 x30 I26 L27)))))))))))))) := h
    obtain ⟨K8, eK8⟩ : ∃ K : Nat → Nat → Int32 → Int32 → jI → jL → Prop, K = fs_X3_readSum_L8 F  Z Q n := ⟨_, rfl⟩
    have hK8 := ih
    clear eK8 K8
    generalize fs_X3_readSum_L8 F  Z Q n = K8 at hK8 h
    refine j_iload_n E dX3_readSum_8 3 rfl ?_
    refine j_bipush E (v := 40) dX3_readSum_9 (by decide) ?_
    refine j_icmp_ge E 65 dX3_readSum_11 (by decide) (fun c1 => ?_) (fun c1 => ?_)
    · have h := h.1 c1
      exact j_return E ⟨rfl, rfl, h⟩ (Nat.zero_le _) (Nat.zero_le _) dX3_readSum_65
    · have h := h.2 c1
      refine j_aload_n E dX3_readSum_14 0 rfl ?_
      refine j_aload_n E dX3_readSum_15 1 rfl ?_
      refine j_bipush E (v := 43) dX3_readSum_16 (by decide) ?_
      refine j_bipush E (v := 45) dX3_readSum_18 (by decide) ?_
      refine j_callV E [.ref v1, .int (43 : Int32), .int (45 : Int32)] [] (c_X3_isAhead (gL G) (gD G) (gY G) v0 v1 (43 : Int32) (45 : Int32) Z I L _ hZ kv0 kv1 h) (gwV W_208 W_209 W_210 W_179 W_207) rfl ⟨rfl, fy_X3_isAhead⟩ ⟨by show 2 + 1 ≤ d + 1 + 4; omega, by show 8 + (5 + 11) + 42 ≤ 24 * (d + 1) + 100; omega⟩ (c := 3) rfl (by decide) kv0 rfl rfl (Nat.le_of_ble_eq_true rfl) ⟨Nat.zero_le _, Nat.zero_le _⟩ dX3_readSum_20 (fun v2 Z3 I4 L5 q6 => ?_)
      obtain ⟨rfl, r8, rfl, zr8, h⟩ := q6
      show jJ G 5 23 [(0, .ref v0), (1, .ref v1), (2, .int v2), (3, .int v3)] [.int r8] Z I4 L5 0 0
      refine j_if_eq E 65 dX3_readSum_23 (by decide) (fun c9 => ?_) (fun c9 => ?_)
      · have h := h.1 c9
        exact j_return E ⟨rfl, rfl, h⟩ (Nat.zero_le _) (Nat.zero_le _) dX3_readSum_65
      · have h := h.2 c9
        refine j_aload_n E dX3_readSum_26 0 rfl ?_
        refine j_aload_n E dX3_readSum_27 1 rfl ?_
        refine j_callV E [.ref v1] [] (c_X3_look (gL G) (gD G) (gY G) v0 v1 Z I4 L5 _ hZ kv0 kv1 h) (gwV W_194 W_195 W_196 W_179 W_193) rfl ⟨rfl, fy_X3_look⟩ ⟨by show 1 + 1 ≤ d + 1 + 4; omega, by show 8 + (2 + 11) + 21 ≤ 24 * (d + 1) + 100; omega⟩ (c := 3) rfl (by decide) kv0 rfl rfl (Nat.le_of_ble_eq_true rfl) ⟨Nat.zero_le _, Nat.zero_le _⟩ dX3_readSum_28 (fun v10 Z11 I12 L13 q14 => ?_)
        obtain ⟨rfl, r16, rfl, h⟩ := q14
        show jJ G 5 31 [(0, .ref v0), (1, .ref v1), (2, .int v2), (3, .int v3)] [.int r16] Z I12 L13 0 0
        refine j_istore E 4 [(4, .int r16), (0, .ref v0), (1, .ref v1), (2, .int v2), (3, .int v3)] dX3_readSum_31 (by decide) rfl ?_
        refine j_aload_n E dX3_readSum_33 1 rfl ?_
        refine j_dup E dX3_readSum_34 rfl ?_
        refine j_geti E 3 6 rfl rfl (by decide) (by decide) (iw iT_3) rfl rfl (tw W_186) kv0 dX3_readSum_35 ?_
        refine j_iconst E (v := 1) dX3_readSum_38 (by decide) ?_
        refine j_iadd E dX3_readSum_39 ?_
        refine j_puti E 3 6 rfl rfl (by decide) (by decide) (iw iT_3) tyX3_ok nmX3 rfl rfl (tw W_186) rfl rfl rfl kv0 dX3_readSum_40 ?_
        refine j_nmI (fun I17 eI17 => ?_)
        have h := h I17 eI17
        refine j_aload_n E dX3_readSum_43 1 rfl ?_
        refine j_aload_n E dX3_readSum_44 2 rfl ?_
        refine j_iload_n E dX3_readSum_45 3 rfl ?_
        refine j_callVS E hU [.ref v1, .int v2] [] (hF.2.2.1 v0 v1 v2 Z I17 L13 _ hZ kv0 kv1 h) (gwV WS_1266 WS_1267 WS_1268 W_179 WS_1265) rfl ⟨rfl, fy_X3_readProduct⟩ ⟨by show d + 4 + 1 ≤ d + 1 + 4; omega, by show 8 + (5 + 11) + (24 * d + 100) ≤ 24 * (d + 1) + 100; omega⟩ (c := 3) rfl (by decide) kv0 rfl rfl (Nat.le_of_ble_eq_true rfl) ⟨Nat.zero_le _, Nat.zero_le _⟩ dX3_readSum_46 (fun v18 Z19 I20 L21 q22 => ?_)
        obtain ⟨rfl, rfl, h⟩ := q22
        show jJ G 5 49 [(4, .int r16), (0, .ref v0), (1, .ref v1), (2, .int v2), (3, .int v3)] [] Z I20 L21 0 0
        refine j_aload_n E dX3_readSum_49 1 rfl ?_
        refine j_sipush E (v := 2000) dX3_readSum_50 (by decide) ?_
        refine j_iload E dX3_readSum_53 0 rfl ?_
        refine j_iadd E dX3_readSum_55 ?_
        refine j_callV E [.int ((2000 : Int32) + r16)] [] (c_X3_emit (gL G) (gD G) (gY G) v0 ((2000 : Int32) + r16) Z I20 L21 _ hZ kv0 h) (gwV W_201 W_202 W_203 W_179 W_200) rfl ⟨rfl, fy_X3_emit⟩ ⟨by show 0 + 1 ≤ d + 1 + 4; omega, by show 8 + (2 + 11) + 0 ≤ 24 * (d + 1) + 100; omega⟩ (c := 3) rfl (by decide) kv0 rfl rfl (Nat.le_of_ble_eq_true rfl) ⟨Nat.zero_le _, Nat.zero_le _⟩ dX3_readSum_56 (fun v24 Z25 I26 L27 q28 => ?_)
        obtain ⟨rfl, rfl, h⟩ := q28
        show jJ G 5 59 [(4, .int r16), (0, .ref v0), (1, .ref v1), (2, .int v2), (3, .int v3)] [] Z I26 L27 0 0
        obtain ⟨x30, ex30⟩ : ∃ y : Int32, y = v3 + 1 := ⟨_, rfl⟩
        have h := h x30 ex30
        refine j_iinc E x30 [(3, .int x30), (4, .int r16), (0, .ref v0), (1, .ref v1), (2, .int v2)] dX3_readSum_59 4 rfl (by rw [ex30]; rfl) (by decide) rfl ?_
        refine j_goto E 8 dX3_readSum_62 (by decide) ?_
        refine j_sub [2, 3, 4, 0] rfl ?_
        exact hK8 v0 v1 v2 x30 I26 L27 kv0 kv1 h
set_option maxRecDepth 100000 in
def fs_X3_readSum (F : FTR3) (v0 : Nat) (v1 : Nat) (v2 : Int32) (Z : jZ) (I : jI) (L : jL) (Q : jI → jL → Prop) : Prop := (F 2 v0 v1 v2 Z I L (fun I33 L34 => (∃ m8 : Nat, fs_X3_readSum_L8 F  Z Q m8 v0 v1 v2 (0 : Int32) I33 L34)))
set_option maxHeartbeats 4000000 in
set_option maxRecDepth 100000 in
theorem cs_X3_readSum (l : Launch) (D : va_G) (cy : jC) {sa sb : Nat} {d : Nat} {F : FTR3} (hF : HFR3 sa sb l D cy d F) (v0 : Nat) (v1 : Nat) (v2 : Int32) (Z : jZ) (I : jI) (L : jL) (Q : jI → jL → Prop) (hZ : SH Z) (kv0 : jk Z v0 3) (kv1 : jk Z v1 10) (h : fs_X3_readSum F v0 v1 v2 Z I L Q) : jCtS sa sb l yX3_readSum w_X3_readSum (rR3 (d + 1)) D cy [.ref v0, .ref v1, .int v2] Z I L (rtV Z Q) := by
  refine jCtS_of (cc := cX3_readSum) (maxL := 5) (ret := none) (by decide +kernel) rfl (Nat.le_of_ble_eq_true rfl) ?_
  intro G eD eY eL E hU
  subst eD; subst eY; subst eL
  have E : jE G cX3_readSum RX3 w_X3_readSum 5 none (rR3 (d + 1)) (rtV Z Q) := E
  show jJ G 5 0 [(0, .ref v0), (1, .ref v1), (2, .int v2)] [] Z I L 0 0
  refine j_aload_n E dX3_readSum_0 0 rfl ?_
  refine j_aload_n E dX3_readSum_1 1 rfl ?_
  refine j_iload_n E dX3_readSum_2 2 rfl ?_
  refine j_callVS E hU [.ref v1, .int v2] [] (hF.2.2.1 v0 v1 v2 Z I L _ hZ kv0 kv1 h) (gwV WS_1266 WS_1267 WS_1268 W_179 WS_1265) rfl ⟨rfl, fy_X3_readProduct⟩ ⟨by show d + 4 + 1 ≤ d + 1 + 4; omega, by show 8 + (5 + 11) + (24 * d + 100) ≤ 24 * (d + 1) + 100; omega⟩ (c := 3) rfl (by decide) kv0 rfl rfl (Nat.le_of_ble_eq_true rfl) ⟨Nat.zero_le _, Nat.zero_le _⟩ dX3_readSum_3 (fun v31 Z32 I33 L34 q35 => ?_)
  obtain ⟨rfl, rfl, h⟩ := q35
  show jJ G 5 6 [(0, .ref v0), (1, .ref v1), (2, .int v2)] [] Z I33 L34 0 0
  refine j_iconst E (v := 0) dX3_readSum_6 (by decide) ?_
  refine j_istore_n E 3 [(3, .int (0 : Int32)), (0, .ref v0), (1, .ref v1), (2, .int v2)] dX3_readSum_7 rfl (by decide) rfl ?_
  obtain ⟨n37, h⟩ := h
  refine j_sub [1, 2, 3, 0] rfl ?_
  exact ms_X3_readSum_L8 E hU hF hZ  n37 v0 v1 v2 (0 : Int32) I33 L34 kv0 kv1 h
set_option maxRecDepth 100000 in
def fs_X3_readExpression_b30 (F : FTR3)  (Z : jZ) (Q : jI → jL → Prop) (v0 : Nat) (v1 : Nat) (v2 : Int32) (I : jI) (L : jL) : Prop := (f_X3_look v0 v1 Z I L (fun r7 I3 L4 => (∀ I8 : jI, I8 = jpI I3 v0 6 ((I3 v0 6) + (1 : Int32)) → (F 1 v0 v1 v2 Z I8 L4 (fun I11 L12 => (f_X3_emit v0 ((2000 : Int32) + r7) Z I11 L12 (fun I17 L18 => Q I17 L18)))))))
set_option maxHeartbeats 4000000 in
set_option maxRecDepth 100000 in
theorem ms_X3_readExpression_b30 {G : jG} {sa sb : Nat} {d : Nat} {F : FTR3} {Z : jZ} {Q : jI → jL → Prop} (E : jE G cX3_readExpression RX3 w_X3_readExpression 4 none (rR3 (d + 1)) (rtV Z Q)) (hU : jU sa sb (gA G) (gS G) (gS G).heap) (hF : HFR3 sa sb (gL G) (gD G) (gY G) d F) (hZ : SH Z)  (v0 : Nat) (v1 : Nat) (v2 : Int32) (I : jI) (L : jL) (kv0 : jk Z v0 3) (kv1 : jk Z v1 10) (h : fs_X3_readExpression_b30 F  Z Q v0 v1 v2 I L) : jJ G 4 30 [(0, .ref v0), (1, .ref v1), (2, .int v2)] [] Z I L 0 0 := by
  refine j_aload_n E dX3_readExpression_30 0 rfl ?_
  refine j_aload_n E dX3_readExpression_31 1 rfl ?_
  refine j_callV E [.ref v1] [] (c_X3_look (gL G) (gD G) (gY G) v0 v1 Z I L _ hZ kv0 kv1 h) (gwV W_194 W_195 W_196 W_179 W_193) rfl ⟨rfl, fy_X3_look⟩ ⟨by show 1 + 1 ≤ d + 1 + 4; omega, by show 8 + (2 + 11) + 21 ≤ 24 * (d + 1) + 100; omega⟩ (c := 3) rfl (by decide) kv0 rfl rfl (Nat.le_of_ble_eq_true rfl) ⟨Nat.zero_le _, Nat.zero_le _⟩ dX3_readExpression_32 (fun v1 Z2 I3 L4 q5 => ?_)
  obtain ⟨rfl, r7, rfl, h⟩ := q5
  show jJ G 4 35 [(0, .ref v0), (1, .ref v1), (2, .int v2)] [.int r7] Z I3 L4 0 0
  refine j_istore_n E 3 [(3, .int r7), (0, .ref v0), (1, .ref v1), (2, .int v2)] dX3_readExpression_35 rfl (by decide) rfl ?_
  refine j_aload_n E dX3_readExpression_36 1 rfl ?_
  refine j_dup E dX3_readExpression_37 rfl ?_
  refine j_geti E 3 6 rfl rfl (by decide) (by decide) (iw iT_3) rfl rfl (tw W_186) kv0 dX3_readExpression_38 ?_
  refine j_iconst E (v := 1) dX3_readExpression_41 (by decide) ?_
  refine j_iadd E dX3_readExpression_42 ?_
  refine j_puti E 3 6 rfl rfl (by decide) (by decide) (iw iT_3) tyX3_ok nmX3 rfl rfl (tw W_186) rfl rfl rfl kv0 dX3_readExpression_43 ?_
  refine j_nmI (fun I8 eI8 => ?_)
  have h := h I8 eI8
  refine j_aload_n E dX3_readExpression_46 1 rfl ?_
  refine j_aload_n E dX3_readExpression_47 2 rfl ?_
  refine j_iload_n E dX3_readExpression_48 3 rfl ?_
  refine j_callVS E hU [.ref v1, .int v2] [] (hF.2.1 v0 v1 v2 Z I8 L4 _ hZ kv0 kv1 h) (gwV WS_1270 WS_1271 WS_1272 W_179 WS_1269) rfl ⟨rfl, fy_X3_readSum⟩ ⟨by show d + 4 + 1 ≤ d + 1 + 4; omega, by show 8 + (5 + 11) + (24 * d + 100) ≤ 24 * (d + 1) + 100; omega⟩ (c := 3) rfl (by decide) kv0 rfl rfl (Nat.le_of_ble_eq_true rfl) ⟨Nat.zero_le _, Nat.zero_le _⟩ dX3_readExpression_49 (fun v9 Z10 I11 L12 q13 => ?_)
  obtain ⟨rfl, rfl, h⟩ := q13
  show jJ G 4 52 [(3, .int r7), (0, .ref v0), (1, .ref v1), (2, .int v2)] [] Z I11 L12 0 0
  refine j_aload_n E dX3_readExpression_52 1 rfl ?_
  refine j_sipush E (v := 2000) dX3_readExpression_53 (by decide) ?_
  refine j_iload_n E dX3_readExpression_56 0 rfl ?_
  refine j_iadd E dX3_readExpression_57 ?_
  refine j_callV E [.int ((2000 : Int32) + r7)] [] (c_X3_emit (gL G) (gD G) (gY G) v0 ((2000 : Int32) + r7) Z I11 L12 _ hZ kv0 h) (gwV W_201 W_202 W_203 W_179 W_200) rfl ⟨rfl, fy_X3_emit⟩ ⟨by show 0 + 1 ≤ d + 1 + 4; omega, by show 8 + (2 + 11) + 0 ≤ 24 * (d + 1) + 100; omega⟩ (c := 3) rfl (by decide) kv0 rfl rfl (Nat.le_of_ble_eq_true rfl) ⟨Nat.zero_le _, Nat.zero_le _⟩ dX3_readExpression_58 (fun v15 Z16 I17 L18 q19 => ?_)
  obtain ⟨rfl, rfl, h⟩ := q19
  show jJ G 4 61 [(3, .int r7), (0, .ref v0), (1, .ref v1), (2, .int v2)] [] Z I17 L18 0 0
  exact j_return E ⟨rfl, rfl, h⟩ (Nat.zero_le _) (Nat.zero_le _) dX3_readExpression_61
set_option maxRecDepth 100000 in
def fs_X3_readExpression (F : FTR3) (v0 : Nat) (v1 : Nat) (v2 : Int32) (Z : jZ) (I : jI) (L : jL) (Q : jI → jL → Prop) : Prop := (F 1 v0 v1 v2 Z I L (fun I23 L24 => (f_X3_isAhead v0 v1 (60 : Int32) (62 : Int32) Z I23 L24 (fun r33 I29 L30 => ((¬ r33 = 0 → fs_X3_readExpression_b30 F  Z Q v0 v1 v2 I29 L30) ∧ (r33 = 0 → (f_X3_isAhead v0 v1 (61 : Int32) (61 : Int32) Z I29 L30 (fun r41 I37 L38 => ((r41 = 0 → Q I37 L38) ∧ (¬ (r41 = 0) → fs_X3_readExpression_b30 F  Z Q v0 v1 v2 I37 L38))))))))))
set_option maxHeartbeats 4000000 in
set_option maxRecDepth 100000 in
theorem cs_X3_readExpression (l : Launch) (D : va_G) (cy : jC) {sa sb : Nat} {d : Nat} {F : FTR3} (hF : HFR3 sa sb l D cy d F) (v0 : Nat) (v1 : Nat) (v2 : Int32) (Z : jZ) (I : jI) (L : jL) (Q : jI → jL → Prop) (hZ : SH Z) (kv0 : jk Z v0 3) (kv1 : jk Z v1 10) (h : fs_X3_readExpression F v0 v1 v2 Z I L Q) : jCtS sa sb l yX3_readExpression w_X3_readExpression (rR3 (d + 1)) D cy [.ref v0, .ref v1, .int v2] Z I L (rtV Z Q) := by
  refine jCtS_of (cc := cX3_readExpression) (maxL := 4) (ret := none) (by decide +kernel) rfl (Nat.le_of_ble_eq_true rfl) ?_
  intro G eD eY eL E hU
  subst eD; subst eY; subst eL
  have E : jE G cX3_readExpression RX3 w_X3_readExpression 4 none (rR3 (d + 1)) (rtV Z Q) := E
  show jJ G 4 0 [(0, .ref v0), (1, .ref v1), (2, .int v2)] [] Z I L 0 0
  refine j_aload_n E dX3_readExpression_0 0 rfl ?_
  refine j_aload_n E dX3_readExpression_1 1 rfl ?_
  refine j_iload_n E dX3_readExpression_2 2 rfl ?_
  refine j_callVS E hU [.ref v1, .int v2] [] (hF.2.1 v0 v1 v2 Z I L _ hZ kv0 kv1 h) (gwV WS_1270 WS_1271 WS_1272 W_179 WS_1269) rfl ⟨rfl, fy_X3_readSum⟩ ⟨by show d + 4 + 1 ≤ d + 1 + 4; omega, by show 8 + (5 + 11) + (24 * d + 100) ≤ 24 * (d + 1) + 100; omega⟩ (c := 3) rfl (by decide) kv0 rfl rfl (Nat.le_of_ble_eq_true rfl) ⟨Nat.zero_le _, Nat.zero_le _⟩ dX3_readExpression_3 (fun v21 Z22 I23 L24 q25 => ?_)
  obtain ⟨rfl, rfl, h⟩ := q25
  show jJ G 4 6 [(0, .ref v0), (1, .ref v1), (2, .int v2)] [] Z I23 L24 0 0
  refine j_aload_n E dX3_readExpression_6 0 rfl ?_
  refine j_aload_n E dX3_readExpression_7 1 rfl ?_
  refine j_bipush E (v := 60) dX3_readExpression_8 (by decide) ?_
  refine j_bipush E (v := 62) dX3_readExpression_10 (by decide) ?_
  refine j_callV E [.ref v1, .int (60 : Int32), .int (62 : Int32)] [] (c_X3_isAhead (gL G) (gD G) (gY G) v0 v1 (60 : Int32) (62 : Int32) Z I23 L24 _ hZ kv0 kv1 h) (gwV W_208 W_209 W_210 W_179 W_207) rfl ⟨rfl, fy_X3_isAhead⟩ ⟨by show 2 + 1 ≤ d + 1 + 4; omega, by show 8 + (5 + 11) + 42 ≤ 24 * (d + 1) + 100; omega⟩ (c := 3) rfl (by decide) kv0 rfl rfl (Nat.le_of_ble_eq_true rfl) ⟨Nat.zero_le _, Nat.zero_le _⟩ dX3_readExpression_12 (fun v27 Z28 I29 L30 q31 => ?_)
  obtain ⟨rfl, r33, rfl, zr33, h⟩ := q31
  show jJ G 4 15 [(0, .ref v0), (1, .ref v1), (2, .int v2)] [.int r33] Z I29 L30 0 0
  refine j_if_ne E 30 dX3_readExpression_15 (by decide) (fun c34 => ?_) (fun c34 => ?_)
  · have h := h.1 c34
    refine j_sub [0, 1, 2] rfl ?_
    exact ms_X3_readExpression_b30 E hU hF hZ  v0 v1 v2 I29 L30 kv0 kv1 h
  · have h := h.2 c34
    refine j_aload_n E dX3_readExpression_18 0 rfl ?_
    refine j_aload_n E dX3_readExpression_19 1 rfl ?_
    refine j_bipush E (v := 61) dX3_readExpression_20 (by decide) ?_
    refine j_bipush E (v := 61) dX3_readExpression_22 (by decide) ?_
    refine j_callV E [.ref v1, .int (61 : Int32), .int (61 : Int32)] [] (c_X3_isAhead (gL G) (gD G) (gY G) v0 v1 (61 : Int32) (61 : Int32) Z I29 L30 _ hZ kv0 kv1 h) (gwV W_208 W_209 W_210 W_179 W_207) rfl ⟨rfl, fy_X3_isAhead⟩ ⟨by show 2 + 1 ≤ d + 1 + 4; omega, by show 8 + (5 + 11) + 42 ≤ 24 * (d + 1) + 100; omega⟩ (c := 3) rfl (by decide) kv0 rfl rfl (Nat.le_of_ble_eq_true rfl) ⟨Nat.zero_le _, Nat.zero_le _⟩ dX3_readExpression_24 (fun v35 Z36 I37 L38 q39 => ?_)
    obtain ⟨rfl, r41, rfl, zr41, h⟩ := q39
    show jJ G 4 27 [(0, .ref v0), (1, .ref v1), (2, .int v2)] [.int r41] Z I37 L38 0 0
    refine j_if_eq E 61 dX3_readExpression_27 (by decide) (fun c42 => ?_) (fun c42 => ?_)
    · have h := h.1 c42
      exact j_return E ⟨rfl, rfl, h⟩ (Nat.zero_le _) (Nat.zero_le _) dX3_readExpression_61
    · have h := h.2 c42
      refine j_sub [0, 1, 2] rfl ?_
      exact ms_X3_readExpression_b30 E hU hF hZ  v0 v1 v2 I37 L38 kv0 kv1 h
set_option maxRecDepth 100000 in
def fR3 : Nat → FTR3
  | 0 => fun _ _ _ _ _ _ _ _ => False
  | d + 1 => fun w v0 v1 v2 Z I L Q => match w with
    | 0 => fs_X3_readExpression (fR3 d) v0 v1 v2 Z I L Q
    | 1 => fs_X3_readSum (fR3 d) v0 v1 v2 Z I L Q
    | 2 => fs_X3_readProduct (fR3 d) v0 v1 v2 Z I L Q
    | 3 => fs_X3_readSigned (fR3 d) v0 v1 v2 Z I L Q
    | _ => fs_X3_readThing (fR3 d) v0 v1 v2 Z I L Q
theorem hR3 {sa sb : Nat} (l : Launch) (D : va_G) (cy : jC) : ∀ d, HFR3 sa sb l D cy d (fR3 d) := by
  intro d
  induction d with
  | zero => exact ⟨fun _ _ _ _ _ _ _ _ _ _ h => h.elim, fun _ _ _ _ _ _ _ _ _ _ h => h.elim, fun _ _ _ _ _ _ _ _ _ _ h => h.elim, fun _ _ _ _ _ _ _ _ _ _ h => h.elim, fun _ _ _ _ _ _ _ _ _ _ h => h.elim⟩
  | succ d ih => exact ⟨fun v0 v1 v2 Z I L Q hZ k0 k1 h => cs_X3_readExpression l D cy ih v0 v1 v2 Z I L Q hZ k0 k1 h, fun v0 v1 v2 Z I L Q hZ k0 k1 h => cs_X3_readSum l D cy ih v0 v1 v2 Z I L Q hZ k0 k1 h, fun v0 v1 v2 Z I L Q hZ k0 k1 h => cs_X3_readProduct l D cy ih v0 v1 v2 Z I L Q hZ k0 k1 h, fun v0 v1 v2 Z I L Q hZ k0 k1 h => cs_X3_readSigned l D cy ih v0 v1 v2 Z I L Q hZ k0 k1 h, fun v0 v1 v2 Z I L Q hZ k0 k1 h => cs_X3_readThing l D cy ih v0 v1 v2 Z I L Q hZ k0 k1 h⟩
set_option maxRecDepth 100000 in
def fs_X3_read_b175 (K122 : Nat → Int32 → jI → jL → Prop) (Z : jZ) (Q : Int32 → jI → jL → Prop) (v0 : Nat) (v2 : Int32) (s0 : Nat) (s1 : Int32) (s2 : Int32) (I : jI) (L : jL) : Prop := (∀ I1 : jI, I1 = jpI I s0 4 (s1 ||| s2) → (∀ x2 : Int32, x2 = v2 + 1 → K122 v0 x2 I1 L))
set_option maxHeartbeats 4000000 in
set_option maxRecDepth 100000 in
theorem ms_X3_read_b175 {G : jG} {sa sb : Nat} {Z : jZ} {Q : Int32 → jI → jL → Prop} (E : jE G cX3_read RX3 w_X3_read 3 (some .int) { frames := 35, cells := 0, slots := 0, locals := 843 } (rtI Z Q)) (hU : jU sa sb (gA G) (gS G) (gS G).heap) (hZ : SH Z) (K122 : Nat → Int32 → jI → jL → Prop) (hK122 : ∀ (v0 : Nat) (v2 : Int32) (I : jI) (L : jL), jk Z v0 3 → K122 v0 v2 I L → jJ G 3 122 [(0, .ref v0), (2, .int v2)] [] Z I L 0 0) (v0 : Nat) (v2 : Int32) (s0 : Nat) (s1 : Int32) (s2 : Int32) (I : jI) (L : jL) (kv0 : jk Z v0 3) (ks0 : jk Z s0 3) (h : fs_X3_read_b175 K122 Z Q v0 v2 s0 s1 s2 I L) : jJ G 3 175 [(0, .ref v0), (2, .int v2)] [.int s2, .int s1, .ref s0] Z I L 0 0 := by
  refine j_ior E dX3_read_175 ?_
  refine j_puti E 3 4 rfl rfl (by decide) (by decide) (iw iT_3) tyX3_ok nmX3 rfl rfl (tw W_183) rfl rfl rfl ks0 dX3_read_176 ?_
  refine j_nmI (fun I1 eI1 => ?_)
  have h := h I1 eI1
  obtain ⟨x2, ex2⟩ : ∃ y : Int32, y = v2 + 1 := ⟨_, rfl⟩
  have h := h x2 ex2
  refine j_iinc E x2 [(2, .int x2), (0, .ref v0)] dX3_read_179 1 rfl (by rw [ex2]; rfl) (by decide) rfl ?_
  refine j_goto E 122 dX3_read_182 (by decide) ?_
  refine j_sub [1, 0] rfl ?_
  exact hK122 v0 x2 I1 L kv0 h
set_option maxRecDepth 100000 in
def fs_X3_read_b174 (K122 : Nat → Int32 → jI → jL → Prop) (Z : jZ) (Q : Int32 → jI → jL → Prop) (v0 : Nat) (v2 : Int32) (s0 : Nat) (s1 : Int32) (I : jI) (L : jL) : Prop := fs_X3_read_b175 K122 Z Q v0 v2 s0 s1 (0 : Int32) I L
set_option maxHeartbeats 4000000 in
set_option maxRecDepth 100000 in
theorem ms_X3_read_b174 {G : jG} {sa sb : Nat} {Z : jZ} {Q : Int32 → jI → jL → Prop} (E : jE G cX3_read RX3 w_X3_read 3 (some .int) { frames := 35, cells := 0, slots := 0, locals := 843 } (rtI Z Q)) (hU : jU sa sb (gA G) (gS G) (gS G).heap) (hZ : SH Z) (K122 : Nat → Int32 → jI → jL → Prop) (hK122 : ∀ (v0 : Nat) (v2 : Int32) (I : jI) (L : jL), jk Z v0 3 → K122 v0 v2 I L → jJ G 3 122 [(0, .ref v0), (2, .int v2)] [] Z I L 0 0) (v0 : Nat) (v2 : Int32) (s0 : Nat) (s1 : Int32) (I : jI) (L : jL) (kv0 : jk Z v0 3) (ks0 : jk Z s0 3) (h : fs_X3_read_b174 K122 Z Q v0 v2 s0 s1 I L) : jJ G 3 174 [(0, .ref v0), (2, .int v2)] [.int s1, .ref s0] Z I L 0 0 := by
  refine j_iconst E (v := 0) dX3_read_174 (by decide) ?_
  refine j_sub [0, 1] rfl ?_
  exact ms_X3_read_b175 E hU hZ K122 hK122 v0 v2 s0 s1 (0 : Int32) I L kv0 ks0 h
set_option maxRecDepth 100000 in
def fs_X3_read_L122  (Z : jZ) (Q : Int32 → jI → jL → Prop) : Nat → Nat → Int32 → jI → jL → Prop
  | 0 => fun _ _ _ _ => False
  | n + 1 => fun v0 v2 I L => (((I v0 3) ≤ v2 → Q (0 : Int32) I L) ∧ (¬ ((I v0 3) ≤ v2) → (∀ b4 : Nat, jr Z v0 0 = some b4 → (vp_in v2 40 ∧ (((I b4 v2.toNatClampNeg) < (1000 : Int32) → fs_X3_read_b174 (fs_X3_read_L122 Z Q n) Z Q v0 v2 v0 (I v0 4) I L) ∧ (¬ ((I b4 v2.toNatClampNeg) < (1000 : Int32)) → (∀ b7 : Nat, jr Z v0 0 = some b7 → (vp_in v2 40 ∧ (((2000 : Int32) ≤ (I b7 v2.toNatClampNeg) → fs_X3_read_b174 (fs_X3_read_L122 Z Q n) Z Q v0 v2 v0 (I v0 4) I L) ∧ (¬ ((2000 : Int32) ≤ (I b7 v2.toNatClampNeg)) → (∀ b10 : Nat, jr Z v0 0 = some b10 → (vp_in v2 40 ∧ fs_X3_read_b175 (fs_X3_read_L122 Z Q n) Z Q v0 v2 v0 (I v0 4) ((1 : Int32) <<< (((I b10 v2.toNatClampNeg) - (1000 : Int32)) &&& 31)) I L))))))))))))
set_option maxHeartbeats 4000000 in
set_option maxRecDepth 100000 in
theorem ms_X3_read_L122 {G : jG} {sa sb : Nat} {Z : jZ} {Q : Int32 → jI → jL → Prop} (E : jE G cX3_read RX3 w_X3_read 3 (some .int) { frames := 35, cells := 0, slots := 0, locals := 843 } (rtI Z Q)) (hU : jU sa sb (gA G) (gS G) (gS G).heap) (hZ : SH Z)  : ∀ (n : Nat) (v0 : Nat) (v2 : Int32) (I : jI) (L : jL), jk Z v0 3 → fs_X3_read_L122  Z Q n v0 v2 I L → jJ G 3 122 [(0, .ref v0), (2, .int v2)] [] Z I L 0 0 := by
  intro n
  induction n with
  | zero => intro v0 v2 I L _ h; exact h.elim
  | succ n ih =>
    intro v0 v2 I L kv0 h
    have h : (((I v0 3) ≤ v2 → Q (0 : Int32) I L) ∧ (¬ ((I v0 3) ≤ v2) → (∀ b4 : Nat, jr Z v0 0 = some b4 → (vp_in v2 40 ∧ (((I b4 v2.toNatClampNeg) < (1000 : Int32) → fs_X3_read_b174 (fs_X3_read_L122 Z Q n) Z Q v0 v2 v0 (I v0 4) I L) ∧ (¬ ((I b4 v2.toNatClampNeg) < (1000 : Int32)) → (∀ b7 : Nat, jr Z v0 0 = some b7 → (vp_in v2 40 ∧ (((2000 : Int32) ≤ (I b7 v2.toNatClampNeg) → fs_X3_read_b174 (fs_X3_read_L122 Z Q n) Z Q v0 v2 v0 (I v0 4) I L) ∧ (¬ ((2000 : Int32) ≤ (I b7 v2.toNatClampNeg)) → (∀ b10 : Nat, jr Z v0 0 = some b10 → (vp_in v2 40 ∧ fs_X3_read_b175 (fs_X3_read_L122 Z Q n) Z Q v0 v2 v0 (I v0 4) ((1 : Int32) <<< (((I b10 v2.toNatClampNeg) - (1000 : Int32)) &&& 31)) I L)))))))))))) := h
    obtain ⟨K122, eK122⟩ : ∃ K : Nat → Int32 → jI → jL → Prop, K = fs_X3_read_L122  Z Q n := ⟨_, rfl⟩
    have hK122 := ih
    clear eK122 K122
    generalize fs_X3_read_L122  Z Q n = K122 at hK122 h
    refine j_iload_n E dX3_read_122 1 rfl ?_
    refine j_aload_n E dX3_read_123 0 rfl ?_
    refine j_geti E 3 3 rfl rfl (by decide) (by decide) (iw iT_3) rfl rfl (tw W_177) kv0 dX3_read_124 ?_
    refine j_icmp_ge E 185 dX3_read_127 (by decide) (fun c3 => ?_) (fun c3 => ?_)
    · have h := h.1 c3
      refine j_iconst E (v := 0) dX3_read_185 (by decide) ?_
      exact j_ireturn E ⟨rfl, _, rfl, h⟩ (Nat.zero_le _) (Nat.zero_le _) dX3_read_186
    · have h := h.2 c3
      refine j_aload_n E dX3_read_130 0 rfl ?_
      refine j_dup E dX3_read_131 rfl ?_
      refine j_geti E 3 4 rfl rfl (by decide) (by decide) (iw iT_3) rfl rfl (tw W_183) kv0 dX3_read_132 ?_
      refine j_aload_n E dX3_read_135 0 rfl ?_
      obtain ⟨b4, eb4, kb4, lb4⟩ := sh_f hZ kv0 (j := 0) (k := 14) (m := 40) rfl
      have h := h b4 eb4
      refine j_getr E 3 0 rfl rfl (by decide) (by decide) (iw iT_3) rfl rfl (tw W_211) kv0 eb4 dX3_read_136 ?_
      refine j_iload_n E dX3_read_139 1 rfl ?_
      obtain ⟨o5, h⟩ := h
      refine j_iald E kb4 (by rw [lb4]; exact o5) dX3_read_140 ?_
      refine j_sipush E (v := 1000) dX3_read_141 (by decide) ?_
      refine j_icmp_lt E 174 dX3_read_144 (by decide) (fun c6 => ?_) (fun c6 => ?_)
      · have h := h.1 c6
        refine j_sub [0, 1] rfl ?_
        exact ms_X3_read_b174 E hU hZ K122 hK122 v0 v2 v0 (I v0 4) I L kv0 kv0 h
      · have h := h.2 c6
        refine j_aload_n E dX3_read_147 0 rfl ?_
        obtain ⟨b7, eb7, kb7, lb7⟩ := sh_f hZ kv0 (j := 0) (k := 14) (m := 40) rfl
        have h := h b7 eb7
        refine j_getr E 3 0 rfl rfl (by decide) (by decide) (iw iT_3) rfl rfl (tw W_211) kv0 eb7 dX3_read_148 ?_
        refine j_iload_n E dX3_read_151 1 rfl ?_
        obtain ⟨o8, h⟩ := h
        refine j_iald E kb7 (by rw [lb7]; exact o8) dX3_read_152 ?_
        refine j_sipush E (v := 2000) dX3_read_153 (by decide) ?_
        refine j_icmp_ge E 174 dX3_read_156 (by decide) (fun c9 => ?_) (fun c9 => ?_)
        · have h := h.1 c9
          refine j_sub [0, 1] rfl ?_
          exact ms_X3_read_b174 E hU hZ K122 hK122 v0 v2 v0 (I v0 4) I L kv0 kv0 h
        · have h := h.2 c9
          refine j_iconst E (v := 1) dX3_read_159 (by decide) ?_
          refine j_aload_n E dX3_read_160 0 rfl ?_
          obtain ⟨b10, eb10, kb10, lb10⟩ := sh_f hZ kv0 (j := 0) (k := 14) (m := 40) rfl
          have h := h b10 eb10
          refine j_getr E 3 0 rfl rfl (by decide) (by decide) (iw iT_3) rfl rfl (tw W_211) kv0 eb10 dX3_read_161 ?_
          refine j_iload_n E dX3_read_164 1 rfl ?_
          obtain ⟨o11, h⟩ := h
          refine j_iald E kb10 (by rw [lb10]; exact o11) dX3_read_165 ?_
          refine j_sipush E (v := 1000) dX3_read_166 (by decide) ?_
          refine j_isub E dX3_read_169 ?_
          refine j_ishl E dX3_read_170 ?_
          refine j_goto E 175 dX3_read_171 (by decide) ?_
          refine j_sub [0, 1] rfl ?_
          exact ms_X3_read_b175 E hU hZ K122 hK122 v0 v2 v0 (I v0 4) ((1 : Int32) <<< (((I b10 v2.toNatClampNeg) - (1000 : Int32)) &&& 31)) I L kv0 kv0 h
set_option maxRecDepth 100000 in
def fs_X3_read_b77  (Z : jZ) (Q : Int32 → jI → jL → Prop) (v0 : Nat) (I : jI) (L : jL) : Prop := (((I v0 8) = (-1 : Int32) → (∀ b13 : Nat, jr Z v0 1 = some b13 → (∀ b14 : Nat, jr Z v0 0 = some b14 → ((¬ (0 : Int32) < 0 ∧ ¬ (0 : Int32) < 0 ∧ ¬ (40 : Int32) < 0 ∧ (0 : Int32).toNatClampNeg + (40 : Int32).toNatClampNeg ≤ 40 ∧ (0 : Int32).toNatClampNeg + (40 : Int32).toNatClampNeg ≤ 40) ∧ (∀ I16 : jI, I16 = va_up I b14 (va_cpy (I b13) (I b14) (0 : Int32).toNatClampNeg (0 : Int32).toNatClampNeg (40 : Int32).toNatClampNeg) → (∀ I17 : jI, I17 = jpI I16 v0 3 (I16 v0 5) → (∀ I18 : jI, I18 = jpI I17 v0 4 (0 : Int32) → (∃ m122 : Nat, fs_X3_read_L122  Z Q m122 v0 (0 : Int32) I18 L)))))))) ∧ (¬ ((I v0 8) = (-1 : Int32)) → Q ((-1 : Int32) - (I v0 8)) I L))
set_option maxHeartbeats 4000000 in
set_option maxRecDepth 100000 in
theorem ms_X3_read_b77 {G : jG} {sa sb : Nat} {Z : jZ} {Q : Int32 → jI → jL → Prop} (E : jE G cX3_read RX3 w_X3_read 3 (some .int) { frames := 35, cells := 0, slots := 0, locals := 843 } (rtI Z Q)) (hU : jU sa sb (gA G) (gS G) (gS G).heap) (hZ : SH Z)  (v0 : Nat) (I : jI) (L : jL) (kv0 : jk Z v0 3) (h : fs_X3_read_b77  Z Q v0 I L) : jJ G 3 77 [(0, .ref v0)] [] Z I L 0 0 := by
  refine j_aload_n E dX3_read_77 0 rfl ?_
  refine j_geti E 3 8 rfl rfl (by decide) (by decide) (iw iT_3) rfl rfl (tw W_197) kv0 dX3_read_78 ?_
  refine j_iconst E (v := -1) dX3_read_81 (by decide) ?_
  refine j_icmp_eq E 92 dX3_read_82 (by decide) (fun c12 => ?_) (fun c12 => ?_)
  · have h := h.1 c12
    refine j_aload_n E dX3_read_92 0 rfl ?_
    obtain ⟨b13, eb13, kb13, lb13⟩ := sh_f hZ kv0 (j := 1) (k := 14) (m := 40) rfl
    have h := h b13 eb13
    refine j_getr E 3 1 rfl rfl (by decide) (by decide) (iw iT_3) rfl rfl (tw W_199) kv0 eb13 dX3_read_93 ?_
    refine j_iconst E (v := 0) dX3_read_96 (by decide) ?_
    refine j_aload_n E dX3_read_97 0 rfl ?_
    obtain ⟨b14, eb14, kb14, lb14⟩ := sh_f hZ kv0 (j := 0) (k := 14) (m := 40) rfl
    have h := h b14 eb14
    refine j_getr E 3 0 rfl rfl (by decide) (by decide) (iw iT_3) rfl rfl (tw W_211) kv0 eb14 dX3_read_98 ?_
    refine j_iconst E (v := 0) dX3_read_101 (by decide) ?_
    refine j_bipush E (v := 40) dX3_read_102 (by decide) ?_
    obtain ⟨o15, h⟩ := h
    refine j_copyi E (tw W_212) (tw W_11) (tw W_12) (tw W_13) kb13 kb14 o15.1 o15.2.1 o15.2.2.1 (by rw [lb13]; exact o15.2.2.2.1) (by rw [lb14]; exact o15.2.2.2.2) (Nat.le_of_ble_eq_true rfl) (Nat.le_of_ble_eq_true rfl) dX3_read_104 ?_
    refine j_nmI (fun I16 eI16 => ?_)
    have h := h I16 eI16
    refine j_aload_n E dX3_read_107 0 rfl ?_
    refine j_aload_n E dX3_read_108 0 rfl ?_
    refine j_geti E 3 5 rfl rfl (by decide) (by decide) (iw iT_3) rfl rfl (tw W_198) kv0 dX3_read_109 ?_
    refine j_puti E 3 3 rfl rfl (by decide) (by decide) (iw iT_3) tyX3_ok nmX3 rfl rfl (tw W_177) rfl rfl rfl kv0 dX3_read_112 ?_
    refine j_nmI (fun I17 eI17 => ?_)
    have h := h I17 eI17
    refine j_aload_n E dX3_read_115 0 rfl ?_
    refine j_iconst E (v := 0) dX3_read_116 (by decide) ?_
    refine j_puti E 3 4 rfl rfl (by decide) (by decide) (iw iT_3) tyX3_ok nmX3 rfl rfl (tw W_183) rfl rfl rfl kv0 dX3_read_117 ?_
    refine j_nmI (fun I18 eI18 => ?_)
    have h := h I18 eI18
    refine j_iconst E (v := 0) dX3_read_120 (by decide) ?_
    refine j_istore_n E 2 [(2, .int (0 : Int32)), (0, .ref v0)] dX3_read_121 rfl (by decide) rfl ?_
    obtain ⟨n19, h⟩ := h
    refine j_sub [1, 0] rfl ?_
    exact ms_X3_read_L122 E hU hZ  n19 v0 (0 : Int32) I18 L kv0 h
  · have h := h.2 c12
    refine j_iconst E (v := -1) dX3_read_85 (by decide) ?_
    refine j_aload_n E dX3_read_86 0 rfl ?_
    refine j_geti E 3 8 rfl rfl (by decide) (by decide) (iw iT_3) rfl rfl (tw W_197) kv0 dX3_read_87 ?_
    refine j_isub E dX3_read_90 ?_
    exact j_ireturn E ⟨rfl, _, rfl, h⟩ (Nat.zero_le _) (Nat.zero_le _) dX3_read_91
set_option maxRecDepth 100000 in
def fs_X3_read_b69  (Z : jZ) (Q : Int32 → jI → jL → Prop) (v0 : Nat) (I : jI) (L : jL) : Prop := (∀ I20 : jI, I20 = jpI I v0 8 (I v0 6) → fs_X3_read_b77  Z Q v0 I20 L)
set_option maxHeartbeats 4000000 in
set_option maxRecDepth 100000 in
theorem ms_X3_read_b69 {G : jG} {sa sb : Nat} {Z : jZ} {Q : Int32 → jI → jL → Prop} (E : jE G cX3_read RX3 w_X3_read 3 (some .int) { frames := 35, cells := 0, slots := 0, locals := 843 } (rtI Z Q)) (hU : jU sa sb (gA G) (gS G) (gS G).heap) (hZ : SH Z)  (v0 : Nat) (I : jI) (L : jL) (kv0 : jk Z v0 3) (h : fs_X3_read_b69  Z Q v0 I L) : jJ G 3 69 [(0, .ref v0)] [] Z I L 0 0 := by
  refine j_aload_n E dX3_read_69 0 rfl ?_
  refine j_aload_n E dX3_read_70 0 rfl ?_
  refine j_geti E 3 6 rfl rfl (by decide) (by decide) (iw iT_3) rfl rfl (tw W_186) kv0 dX3_read_71 ?_
  refine j_puti E 3 8 rfl rfl (by decide) (by decide) (iw iT_3) tyX3_ok nmX3 rfl rfl (tw W_197) rfl rfl rfl kv0 dX3_read_74 ?_
  refine j_nmI (fun I20 eI20 => ?_)
  have h := h I20 eI20
  refine j_sub [0] rfl ?_
  exact ms_X3_read_b77 E hU hZ  v0 I20 L kv0 h
set_option maxRecDepth 100000 in
def fs_X3_read (v0 : Nat) (v1 : Nat) (Z : jZ) (I : jI) (L : jL) (Q : Int32 → jI → jL → Prop) : Prop := (∀ I21 : jI, I21 = jpI I v0 5 (0 : Int32) → (∀ I22 : jI, I22 = jpI I21 v0 6 (0 : Int32) → (∀ I23 : jI, I23 = jpI I22 v0 8 (-1 : Int32) → (∀ I24 : jI, I24 = jpI I23 v0 7 (if (40 : Int32) < (I23 v1 1) then (40 : Int32) else (I23 v1 1)) → (((I24 v1 1) ≤ 0 → fs_X3_read_b77  Z Q v0 I24 L) ∧ (¬ ((I24 v1 1) ≤ 0) → (fR3 30 0 v0 v1 (0 : Int32) Z I24 L (fun I28 L29 => ((¬ (I28 v0 8) = (-1 : Int32) → fs_X3_read_b77  Z Q v0 I28 L29) ∧ ((I28 v0 8) = (-1 : Int32) → (((I28 v0 6) < (I28 v0 7) → fs_X3_read_b69  Z Q v0 I28 L29) ∧ (¬ ((I28 v0 6) < (I28 v0 7)) → (((I28 v1 1) ≤ (40 : Int32) → fs_X3_read_b77  Z Q v0 I28 L29) ∧ (¬ ((I28 v1 1) ≤ (40 : Int32)) → fs_X3_read_b69  Z Q v0 I28 L29))))))))))))))
set_option maxHeartbeats 4000000 in
set_option maxRecDepth 100000 in
theorem cs_X3_read (l : Launch) (D : va_G) (cy : jC) {sa sb : Nat} (v0 : Nat) (v1 : Nat) (Z : jZ) (I : jI) (L : jL) (Q : Int32 → jI → jL → Prop) (hZ : SH Z) (kv0 : jk Z v0 3) (kv1 : jk Z v1 10) (h : fs_X3_read v0 v1 Z I L Q) : jCtS sa sb l yX3_read w_X3_read { frames := 35, cells := 0, slots := 0, locals := 843 } D cy [.ref v0, .ref v1] Z I L (rtI Z Q) := by
  refine jCtS_of (cc := cX3_read) (maxL := 3) (ret := (some .int)) (by decide +kernel) rfl (Nat.le_of_ble_eq_true rfl) ?_
  intro G eD eY eL E hU
  subst eD; subst eY; subst eL
  have E : jE G cX3_read RX3 w_X3_read 3 (some .int) { frames := 35, cells := 0, slots := 0, locals := 843 } (rtI Z Q) := E
  show jJ G 3 0 [(0, .ref v0), (1, .ref v1)] [] Z I L 0 0
  refine j_aload_n E dX3_read_0 0 rfl ?_
  refine j_iconst E (v := 0) dX3_read_1 (by decide) ?_
  refine j_puti E 3 5 rfl rfl (by decide) (by decide) (iw iT_3) tyX3_ok nmX3 rfl rfl (tw W_198) rfl rfl rfl kv0 dX3_read_2 ?_
  refine j_nmI (fun I21 eI21 => ?_)
  have h := h I21 eI21
  refine j_aload_n E dX3_read_5 0 rfl ?_
  refine j_iconst E (v := 0) dX3_read_6 (by decide) ?_
  refine j_puti E 3 6 rfl rfl (by decide) (by decide) (iw iT_3) tyX3_ok nmX3 rfl rfl (tw W_186) rfl rfl rfl kv0 dX3_read_7 ?_
  refine j_nmI (fun I22 eI22 => ?_)
  have h := h I22 eI22
  refine j_aload_n E dX3_read_10 0 rfl ?_
  refine j_iconst E (v := -1) dX3_read_11 (by decide) ?_
  refine j_puti E 3 8 rfl rfl (by decide) (by decide) (iw iT_3) tyX3_ok nmX3 rfl rfl (tw W_197) rfl rfl rfl kv0 dX3_read_12 ?_
  refine j_nmI (fun I23 eI23 => ?_)
  have h := h I23 eI23
  refine j_aload_n E dX3_read_15 0 rfl ?_
  refine j_aload_n E dX3_read_16 1 rfl ?_
  refine j_getiN E 10 1 rfl rfl (by decide) (by decide) (iw iT_10) rfl rfl (nw_10_1_X3_44) kv1 dX3_read_17 ?_
  refine j_bipush E (v := 40) dX3_read_20 (by decide) ?_
  refine j_min E (tw W_213) (tw W_7) (tw W_8) (tw W_9) (Nat.le_of_ble_eq_true rfl) (Nat.le_of_ble_eq_true rfl) (Nat.zero_le _) (Nat.zero_le _) dX3_read_22 ?_
  refine j_puti E 3 7 rfl rfl (by decide) (by decide) (iw iT_3) tyX3_ok nmX3 rfl rfl (tw W_187) rfl rfl rfl kv0 dX3_read_25 ?_
  refine j_nmI (fun I24 eI24 => ?_)
  have h := h I24 eI24
  refine j_aload_n E dX3_read_28 1 rfl ?_
  refine j_getiN E 10 1 rfl rfl (by decide) (by decide) (iw iT_10) rfl rfl (nw_10_1_X3_44) kv1 dX3_read_29 ?_
  refine j_if_le E 77 dX3_read_32 (by decide) (fun c25 => ?_) (fun c25 => ?_)
  · have h := h.1 c25
    refine j_sub [0] rfl ?_
    exact ms_X3_read_b77 E hU hZ  v0 I24 L kv0 h
  · have h := h.2 c25
    refine j_aload_n E dX3_read_35 0 rfl ?_
    refine j_aload_n E dX3_read_36 1 rfl ?_
    refine j_iconst E (v := 0) dX3_read_37 (by decide) ?_
    refine j_callVS E hU [.ref v1, .int (0 : Int32)] [] ((hR3 (sa := sa) (sb := sb) (gL G) (gD G) (gY G) 30).1 v0 v1 (0 : Int32) Z I24 L _ hZ kv0 kv1 h) (gwV WS_1242 WS_1243 WS_1244 W_179 WS_1241) rfl ⟨rfl, fy_X3_readExpression⟩ ⟨by decide, by decide⟩ (c := 3) rfl (by decide) kv0 rfl rfl (Nat.le_of_ble_eq_true rfl) ⟨Nat.zero_le _, Nat.zero_le _⟩ dX3_read_38 (fun v26 Z27 I28 L29 q30 => ?_)
    obtain ⟨rfl, rfl, h⟩ := q30
    show jJ G 3 41 [(0, .ref v0), (1, .ref v1)] [] Z I28 L29 0 0
    refine j_aload_n E dX3_read_41 0 rfl ?_
    refine j_geti E 3 8 rfl rfl (by decide) (by decide) (iw iT_3) rfl rfl (tw W_197) kv0 dX3_read_42 ?_
    refine j_iconst E (v := -1) dX3_read_45 (by decide) ?_
    refine j_icmp_ne E 77 dX3_read_46 (by decide) (fun c32 => ?_) (fun c32 => ?_)
    · have h := h.1 c32
      refine j_sub [0] rfl ?_
      exact ms_X3_read_b77 E hU hZ  v0 I28 L29 kv0 h
    · have h := h.2 c32
      refine j_aload_n E dX3_read_49 0 rfl ?_
      refine j_geti E 3 6 rfl rfl (by decide) (by decide) (iw iT_3) rfl rfl (tw W_186) kv0 dX3_read_50 ?_
      refine j_aload_n E dX3_read_53 0 rfl ?_
      refine j_geti E 3 7 rfl rfl (by decide) (by decide) (iw iT_3) rfl rfl (tw W_187) kv0 dX3_read_54 ?_
      refine j_icmp_lt E 69 dX3_read_57 (by decide) (fun c33 => ?_) (fun c33 => ?_)
      · have h := h.1 c33
        refine j_sub [0] rfl ?_
        exact ms_X3_read_b69 E hU hZ  v0 I28 L29 kv0 h
      · have h := h.2 c33
        refine j_aload_n E dX3_read_60 1 rfl ?_
        refine j_getiN E 10 1 rfl rfl (by decide) (by decide) (iw iT_10) rfl rfl (nw_10_1_X3_44) kv1 dX3_read_61 ?_
        refine j_bipush E (v := 40) dX3_read_64 (by decide) ?_
        refine j_icmp_le E 77 dX3_read_66 (by decide) (fun c34 => ?_) (fun c34 => ?_)
        · have h := h.1 c34
          refine j_sub [0] rfl ?_
          exact ms_X3_read_b77 E hU hZ  v0 I28 L29 kv0 h
        · have h := h.2 c34
          refine j_sub [0] rfl ?_
          exact ms_X3_read_b69 E hU hZ  v0 I28 L29 kv0 h
set_option maxRecDepth 100000 in
def fs_X11_law_b45  (Z : jZ) (Q : Int32 → jI → jL → Prop) (v0 : Nat) (v2 : Int32) (I : jI) (L : jL) : Prop := (∀ b1 : Nat, jr Z v0 0 = some b1 → (f_X10_clear b1 Z I L (fun I4 L5 => Q v2 I4 L5)))
set_option maxHeartbeats 4000000 in
set_option maxRecDepth 100000 in
theorem ms_X11_law_b45 {G : jG} {sa sb : Nat} {Z : jZ} {Q : Int32 → jI → jL → Prop} (E : jE G cX11_law RX11 w_X11_law 3 (some .int) { frames := 36, cells := 0, slots := 0, locals := 865 } (rtI Z Q)) (hU : jU sa sb (gA G) (gS G) (gS G).heap) (hZ : SH Z)  (v0 : Nat) (v2 : Int32) (I : jI) (L : jL) (kv0 : jk Z v0 11) (h : fs_X11_law_b45  Z Q v0 v2 I L) : jJ G 3 45 [(0, .ref v0), (2, .int v2)] [] Z I L 0 0 := by
  refine j_aload_n E dX11_law_45 0 rfl ?_
  obtain ⟨b1, eb1, kb1⟩ := sh_o hZ kv0 (j := 0) (k := 10) rfl
  have h := h b1 eb1
  refine j_getr E 11 0 rfl rfl (by decide) (by decide) (iw iT_11) rfl rfl (tw W_422) kv0 eb1 dX11_law_46 ?_
  refine j_callV E [] [] (c_X10_clear (gL G) (gD G) (gY G) b1 Z I L _ hZ kb1 h) (gwV W_451 W_452 W_453 W_189 W_450) rfl ⟨rfl, fy_X10_clear⟩ ⟨by decide, by decide⟩ (c := 10) rfl (by decide) kb1 rfl rfl (Nat.le_of_ble_eq_true rfl) ⟨Nat.zero_le _, Nat.zero_le _⟩ dX11_law_49 (fun v2 Z3 I4 L5 q6 => ?_)
  obtain ⟨rfl, rfl, h⟩ := q6
  show jJ G 3 52 [(0, .ref v0), (2, .int v2)] [] Z I4 L5 0 0
  refine j_iload_n E dX11_law_52 1 rfl ?_
  exact j_ireturn E ⟨rfl, _, rfl, h⟩ (Nat.zero_le _) (Nat.zero_le _) dX11_law_53
set_option maxRecDepth 100000 in
def fs_X11_law (v0 : Nat) (v1 : Int32) (Z : jZ) (I : jI) (L : jL) (Q : Int32 → jI → jL → Prop) : Prop := ((¬ v1 = 0 → ((¬ v1 = (1 : Int32) → fs_X11_law_b45  Z Q v0 (-100 : Int32) I L) ∧ (v1 = (1 : Int32) → (∀ b10 : Nat, jr Z v0 2 = some b10 → (∀ b11 : Nat, jr Z b10 7 = some b11 → (∀ b12 : Nat, jr Z v0 0 = some b12 → (fs_X3_read b11 b12 Z I L (fun r19 I15 L16 => fs_X11_law_b45  Z Q v0 r19 I15 L16)))))))) ∧ (v1 = 0 → (∀ b20 : Nat, jr Z v0 2 = some b20 → (∀ b21 : Nat, jr Z b20 6 = some b21 → (∀ b22 : Nat, jr Z v0 0 = some b22 → (fs_X3_read b21 b22 Z I L (fun r29 I25 L26 => fs_X11_law_b45  Z Q v0 r29 I25 L26)))))))
set_option maxHeartbeats 4000000 in
set_option maxRecDepth 100000 in
theorem cs_X11_law (l : Launch) (D : va_G) (cy : jC) {sa sb : Nat} (v0 : Nat) (v1 : Int32) (Z : jZ) (I : jI) (L : jL) (Q : Int32 → jI → jL → Prop) (hZ : SH Z) (kv0 : jk Z v0 11) (h : fs_X11_law v0 v1 Z I L Q) : jCtS sa sb l yX11_law w_X11_law { frames := 36, cells := 0, slots := 0, locals := 865 } D cy [.ref v0, .int v1] Z I L (rtI Z Q) := by
  refine jCtS_of (cc := cX11_law) (maxL := 3) (ret := (some .int)) (by decide +kernel) rfl (Nat.le_of_ble_eq_true rfl) ?_
  intro G eD eY eL E hU
  subst eD; subst eY; subst eL
  have E : jE G cX11_law RX11 w_X11_law 3 (some .int) { frames := 36, cells := 0, slots := 0, locals := 865 } (rtI Z Q) := E
  show jJ G 3 0 [(0, .ref v0), (1, .int v1)] [] Z I L 0 0
  refine j_bipush E (v := -100) dX11_law_0 (by decide) ?_
  refine j_istore_n E 2 [(2, .int (-100 : Int32)), (0, .ref v0), (1, .int v1)] dX11_law_2 rfl (by decide) rfl ?_
  refine j_iload_n E dX11_law_3 2 rfl ?_
  refine j_if_ne E 25 dX11_law_4 (by decide) (fun c8 => ?_) (fun c8 => ?_)
  · have h := h.1 c8
    refine j_iload_n E dX11_law_25 2 rfl ?_
    refine j_iconst E (v := 1) dX11_law_26 (by decide) ?_
    refine j_icmp_ne E 45 dX11_law_27 (by decide) (fun c9 => ?_) (fun c9 => ?_)
    · have h := h.1 c9
      refine j_sub [1, 0] rfl ?_
      exact ms_X11_law_b45 E hU hZ  v0 (-100 : Int32) I L kv0 h
    · have h := h.2 c9
      refine j_aload_n E dX11_law_30 1 rfl ?_
      obtain ⟨b10, eb10, kb10⟩ := sh_o hZ kv0 (j := 2) (k := 8) rfl
      have h := h b10 eb10
      refine j_getr E 11 2 rfl rfl (by decide) (by decide) (iw iT_11) rfl rfl (tw W_454) kv0 eb10 dX11_law_31 ?_
      obtain ⟨b11, eb11, kb11⟩ := sh_o hZ kb10 (j := 7) (k := 3) rfl
      have h := h b11 eb11
      refine j_getrN E 8 7 rfl rfl (by decide) (by decide) (iw iT_8) rfl rfl (nw_8_7_X11_135) kb10 eb11 dX11_law_34 ?_
      refine j_aload_n E dX11_law_37 1 rfl ?_
      obtain ⟨b12, eb12, kb12⟩ := sh_o hZ kv0 (j := 0) (k := 10) rfl
      have h := h b12 eb12
      refine j_getr E 11 0 rfl rfl (by decide) (by decide) (iw iT_11) rfl rfl (tw W_422) kv0 eb12 dX11_law_38 ?_
      refine j_callVS E hU [.ref b12] [] (cs_X3_read (gL G) (gD G) (gY G) b11 b12 Z I L _ hZ kb11 kb12 h) (gwV W_460 W_461 W_462 W_179 W_459) rfl ⟨rfl, fy_X3_read⟩ ⟨by decide, by decide⟩ (c := 3) rfl (by decide) kb11 rfl rfl (Nat.le_of_ble_eq_true rfl) ⟨Nat.zero_le _, Nat.zero_le _⟩ dX11_law_41 (fun v13 Z14 I15 L16 q17 => ?_)
      obtain ⟨rfl, r19, rfl, h⟩ := q17
      show jJ G 3 44 [(2, .int (-100 : Int32)), (0, .ref v0), (1, .int v1)] [.int r19] Z I15 L16 0 0
      refine j_istore_n E 2 [(2, .int r19), (0, .ref v0), (1, .int v1)] dX11_law_44 rfl (by decide) rfl ?_
      refine j_sub [1, 0] rfl ?_
      exact ms_X11_law_b45 E hU hZ  v0 r19 I15 L16 kv0 h
  · have h := h.2 c8
    refine j_aload_n E dX11_law_7 1 rfl ?_
    obtain ⟨b20, eb20, kb20⟩ := sh_o hZ kv0 (j := 2) (k := 8) rfl
    have h := h b20 eb20
    refine j_getr E 11 2 rfl rfl (by decide) (by decide) (iw iT_11) rfl rfl (tw W_454) kv0 eb20 dX11_law_8 ?_
    obtain ⟨b21, eb21, kb21⟩ := sh_o hZ kb20 (j := 6) (k := 3) rfl
    have h := h b21 eb21
    refine j_getrN E 8 6 rfl rfl (by decide) (by decide) (iw iT_8) rfl rfl (nw_8_6_X11_128) kb20 eb21 dX11_law_11 ?_
    refine j_aload_n E dX11_law_14 1 rfl ?_
    obtain ⟨b22, eb22, kb22⟩ := sh_o hZ kv0 (j := 0) (k := 10) rfl
    have h := h b22 eb22
    refine j_getr E 11 0 rfl rfl (by decide) (by decide) (iw iT_11) rfl rfl (tw W_422) kv0 eb22 dX11_law_15 ?_
    refine j_callVS E hU [.ref b22] [] (cs_X3_read (gL G) (gD G) (gY G) b21 b22 Z I L _ hZ kb21 kb22 h) (gwV W_460 W_461 W_462 W_179 W_459) rfl ⟨rfl, fy_X3_read⟩ ⟨by decide, by decide⟩ (c := 3) rfl (by decide) kb21 rfl rfl (Nat.le_of_ble_eq_true rfl) ⟨Nat.zero_le _, Nat.zero_le _⟩ dX11_law_18 (fun v23 Z24 I25 L26 q27 => ?_)
    obtain ⟨rfl, r29, rfl, h⟩ := q27
    show jJ G 3 21 [(2, .int (-100 : Int32)), (0, .ref v0), (1, .int v1)] [.int r29] Z I25 L26 0 0
    refine j_istore_n E 2 [(2, .int r29), (0, .ref v0), (1, .int v1)] dX11_law_21 rfl (by decide) rfl ?_
    refine j_goto E 45 dX11_law_22 (by decide) ?_
    refine j_sub [1, 0] rfl ?_
    exact ms_X11_law_b45 E hU hZ  v0 r29 I25 L26 kv0 h
