set_option maxRecDepth 100000 in
def f_X12_vow (v0 : Nat) (v1 : Int32) (v2 : Int32) (Z : jZ) (I : jI) (L : jL) (Q : Int32 → jI → jL → Prop) : Prop := (∀ I1 : jI, I1 = jpI I v0 22 (0 : Int32) → (f_X12_isOne v0 v1 Z I1 L (fun r8 I4 L5 => ((r8 = 0 → Q (-1 : Int32) I4 L5) ∧ (¬ (r8 = 0) → (f_X12_in v2 (0 : Int32) (255 : Int32) Z I4 L5 (fun r16 I12 L13 => ((¬ r16 = 0 → (∀ b18 : Nat, jr Z v0 13 = some b18 → (vp_in v1 6 ∧ (∀ x20 : Int32, x20 = (I12 b18 v1.toNatClampNeg) → (∀ b21 : Nat, jr Z v0 13 = some b21 → (vp_in v1 6 ∧ (∀ I23 : jI, I23 = jpI I12 b21 v1.toNatClampNeg v2 → Q x20 I23 L13))))))) ∧ (r16 = 0 → Q (-1 : Int32) I12 L13)))))))))
set_option maxHeartbeats 4000000 in
set_option maxRecDepth 100000 in
theorem c_X12_vow (l : Launch) (D : va_G) (cy : jC) (v0 : Nat) (v1 : Int32) (v2 : Int32) (Z : jZ) (I : jI) (L : jL) (Q : Int32 → jI → jL → Prop) (hZ : SH Z) (kv0 : jk Z v0 12) (h : f_X12_vow v0 v1 v2 Z I L Q) : jCt l yX12_vow w_X12_vow { frames := 2, cells := 0, slots := 0, locals := 43 } D cy [.ref v0, .int v1, .int v2] Z I L (rtI Z Q) := by
  refine jCt_of (cc := cX12_vow) (maxL := 4) (ret := (some .int)) (by decide +kernel) rfl (Nat.le_of_ble_eq_true rfl) ?_
  intro G eD eY eL E
  subst eD; subst eY; subst eL
  have E : jE G cX12_vow RX12 w_X12_vow 4 (some .int) { frames := 2, cells := 0, slots := 0, locals := 43 } (rtI Z Q) := E
  show jJ G 4 0 [(0, .ref v0), (1, .int v1), (2, .int v2)] [] Z I L 0 0
  refine j_aload_n E dX12_vow_0 0 rfl ?_
  refine j_iconst E (v := 0) dX12_vow_1 (by decide) ?_
  refine j_puti E 12 22 rfl rfl (by decide) (by decide) (iw iT_12) tyX12_ok nmX12 rfl rfl (tw W_690) rfl rfl rfl kv0 dX12_vow_2 ?_
  refine j_nmI (fun I1 eI1 => ?_)
  have h := h I1 eI1
  refine j_aload_n E dX12_vow_5 0 rfl ?_
  refine j_iload_n E dX12_vow_6 1 rfl ?_
  refine j_callV E [.int v1] [] (c_X12_isOne (gL G) (gD G) (gY G) v0 v1 Z I1 L _ hZ kv0 h) (gwV W_804 W_805 W_806 W_695 W_803) rfl ⟨rfl, fy_X12_isOne⟩ ⟨by decide, by decide⟩ (c := 12) rfl (by decide) kv0 rfl rfl (Nat.le_of_ble_eq_true rfl) ⟨Nat.zero_le _, Nat.zero_le _⟩ dX12_vow_7 (fun v2 Z3 I4 L5 q6 => ?_)
  obtain ⟨rfl, r8, rfl, zr8, h⟩ := q6
  show jJ G 4 10 [(0, .ref v0), (1, .int v1), (2, .int v2)] [.int r8] Z I4 L5 0 0
  refine j_if_eq E 24 dX12_vow_10 (by decide) (fun c9 => ?_) (fun c9 => ?_)
  · have h := h.1 c9
    refine j_iconst E (v := -1) dX12_vow_24 (by decide) ?_
    exact j_ireturn E ⟨rfl, _, rfl, h⟩ (Nat.zero_le _) (Nat.zero_le _) dX12_vow_25
  · have h := h.2 c9
    refine j_iload_n E dX12_vow_13 2 rfl ?_
    refine j_iconst E (v := 0) dX12_vow_14 (by decide) ?_
    refine j_sipush E (v := 255) dX12_vow_15 (by decide) ?_
    refine j_callS E [.int v2, .int (0 : Int32), .int (255 : Int32)] [] (c_X12_in (gL G) (gD G) (gY G) v2 (0 : Int32) (255 : Int32) Z I4 L5 _ hZ  h) (gwS W_696 W_697 W_695 W_694) rfl fy_X12_in ⟨by decide, by decide⟩ rfl rfl (Nat.le_of_ble_eq_true rfl) ⟨Nat.zero_le _, Nat.zero_le _⟩ dX12_vow_18 (fun v10 Z11 I12 L13 q14 => ?_)
    obtain ⟨rfl, r16, rfl, zr16, h⟩ := q14
    show jJ G 4 21 [(0, .ref v0), (1, .int v1), (2, .int v2)] [.int r16] Z I12 L13 0 0
    refine j_if_ne E 26 dX12_vow_21 (by decide) (fun c17 => ?_) (fun c17 => ?_)
    · have h := h.1 c17
      refine j_aload_n E dX12_vow_26 0 rfl ?_
      obtain ⟨b18, eb18, kb18, lb18⟩ := sh_f hZ kv0 (j := 13) (k := 14) (m := 6) rfl
      have h := h b18 eb18
      refine j_getr E 12 13 rfl rfl (by decide) (by decide) (iw iT_12) rfl rfl (tw W_802) kv0 eb18 dX12_vow_27 ?_
      refine j_iload_n E dX12_vow_30 1 rfl ?_
      obtain ⟨o19, h⟩ := h
      refine j_iald E kb18 (by rw [lb18]; exact o19) dX12_vow_31 ?_
      refine j_topi (fun x20 ex20 => ?_)
      have h := h x20 ex20
      refine j_istore_n E 3 [(3, .int x20), (0, .ref v0), (1, .int v1), (2, .int v2)] dX12_vow_32 rfl (by decide) rfl ?_
      refine j_aload_n E dX12_vow_33 1 rfl ?_
      obtain ⟨b21, eb21, kb21, lb21⟩ := sh_f hZ kv0 (j := 13) (k := 14) (m := 6) rfl
      have h := h b21 eb21
      refine j_getr E 12 13 rfl rfl (by decide) (by decide) (iw iT_12) rfl rfl (tw W_802) kv0 eb21 dX12_vow_34 ?_
      refine j_iload_n E dX12_vow_37 2 rfl ?_
      refine j_iload_n E dX12_vow_38 3 rfl ?_
      obtain ⟨o22, h⟩ := h
      refine j_iast E kb21 (by rw [lb21]; exact o22) dX12_vow_39 ?_
      refine j_nmI (fun I23 eI23 => ?_)
      have h := h I23 eI23
      refine j_iload_n E dX12_vow_40 0 rfl ?_
      exact j_ireturn E ⟨rfl, _, rfl, h⟩ (Nat.zero_le _) (Nat.zero_le _) dX12_vow_41
    · have h := h.2 c17
      refine j_iconst E (v := -1) dX12_vow_24 (by decide) ?_
      exact j_ireturn E ⟨rfl, _, rfl, h⟩ (Nat.zero_le _) (Nat.zero_le _) dX12_vow_25
set_option maxRecDepth 100000 in
def f_X12_of_b23  (Z : jZ) (Q : Int32 → jI → jL → Prop) (v0 : Nat) (I : jI) (L : jL) : Prop := (f_X12_lost v0 Z I L (fun r7 I3 L4 => Q r7 I3 L4))
set_option maxHeartbeats 4000000 in
set_option maxRecDepth 100000 in
theorem m_X12_of_b23 {G : jG} {Z : jZ} {Q : Int32 → jI → jL → Prop} (E : jE G cX12_of RX12 w_X12_of 3 (some .int) { frames := 2, cells := 0, slots := 0, locals := 43 } (rtI Z Q)) (hZ : SH Z)  (v0 : Nat) (I : jI) (L : jL) (kv0 : jk Z v0 12) (h : f_X12_of_b23  Z Q v0 I L) : jJ G 3 23 [(0, .ref v0)] [] Z I L 0 0 := by
  refine j_aload_n E dX12_of_23 0 rfl ?_
  refine j_callV E [] [] (c_X12_lost (gL G) (gD G) (gY G) v0 Z I L _ hZ kv0 h) (gwV W_786 W_787 W_788 W_695 W_785) rfl ⟨rfl, fy_X12_lost⟩ ⟨by decide, by decide⟩ (c := 12) rfl (by decide) kv0 rfl rfl (Nat.le_of_ble_eq_true rfl) ⟨Nat.zero_le _, Nat.zero_le _⟩ dX12_of_24 (fun v1 Z2 I3 L4 q5 => ?_)
  obtain ⟨rfl, r7, rfl, h⟩ := q5
  show jJ G 3 27 [(0, .ref v0)] [.int r7] Z I3 L4 0 0
  exact j_ireturn E ⟨rfl, _, rfl, h⟩ (Nat.zero_le _) (Nat.zero_le _) dX12_of_27
set_option maxRecDepth 100000 in
def f_X12_of (v0 : Nat) (v1 : Int32) (v2 : Int32) (Z : jZ) (I : jI) (L : jL) (Q : Int32 → jI → jL → Prop) : Prop := (∀ I8 : jI, I8 = jpI I v0 22 (0 : Int32) → (f_X12_isOne v0 v1 Z I8 L (fun r15 I11 L12 => ((r15 = 0 → f_X12_of_b23  Z Q v0 I11 L12) ∧ (¬ (r15 = 0) → (f_X12_in v2 (0 : Int32) (7 : Int32) Z I11 L12 (fun r23 I19 L20 => ((¬ r23 = 0 → ((v2 = 0 → (∀ b26 : Nat, jr Z v0 14 = some b26 → (vp_in v1 6 ∧ Q (I19 b26 v1.toNatClampNeg) I19 L20))) ∧ (¬ v2 = 0 → ((v2 = 1 → (∀ b29 : Nat, jr Z v0 15 = some b29 → (vp_in v1 6 ∧ Q (I19 b29 v1.toNatClampNeg) I19 L20))) ∧ (¬ v2 = 1 → ((v2 = 2 → (∀ b32 : Nat, jr Z v0 16 = some b32 → (vp_in v1 6 ∧ Q (I19 b32 v1.toNatClampNeg) I19 L20))) ∧ (¬ v2 = 2 → ((v2 = 3 → (∀ b35 : Nat, jr Z v0 11 = some b35 → (vp_in v1 6 ∧ Q (I19 b35 v1.toNatClampNeg) I19 L20))) ∧ (¬ v2 = 3 → ((v2 = 4 → (∀ b38 : Nat, jr Z v0 12 = some b38 → (vp_in v1 6 ∧ Q (I19 b38 v1.toNatClampNeg) I19 L20))) ∧ (¬ v2 = 4 → ((v2 = 5 → (∀ b41 : Nat, jr Z v0 13 = some b41 → (vp_in v1 6 ∧ Q (I19 b41 v1.toNatClampNeg) I19 L20))) ∧ (¬ v2 = 5 → ((v2 = 6 → (∀ b44 : Nat, jr Z v0 9 = some b44 → (vp_in v1 6 ∧ Q (I19 b44 v1.toNatClampNeg) I19 L20))) ∧ (¬ v2 = 6 → (∀ b46 : Nat, jr Z v0 10 = some b46 → (vp_in v1 6 ∧ Q (I19 b46 v1.toNatClampNeg) I19 L20))))))))))))))))) ∧ (r23 = 0 → f_X12_of_b23  Z Q v0 I19 L20)))))))))
set_option maxHeartbeats 4000000 in
set_option maxRecDepth 100000 in
theorem c_X12_of (l : Launch) (D : va_G) (cy : jC) (v0 : Nat) (v1 : Int32) (v2 : Int32) (Z : jZ) (I : jI) (L : jL) (Q : Int32 → jI → jL → Prop) (hZ : SH Z) (kv0 : jk Z v0 12) (h : f_X12_of v0 v1 v2 Z I L Q) : jCt l yX12_of w_X12_of { frames := 2, cells := 0, slots := 0, locals := 43 } D cy [.ref v0, .int v1, .int v2] Z I L (rtI Z Q) := by
  refine jCt_of (cc := cX12_of) (maxL := 3) (ret := (some .int)) (by decide +kernel) rfl (Nat.le_of_ble_eq_true rfl) ?_
  intro G eD eY eL E
  subst eD; subst eY; subst eL
  have E : jE G cX12_of RX12 w_X12_of 3 (some .int) { frames := 2, cells := 0, slots := 0, locals := 43 } (rtI Z Q) := E
  show jJ G 3 0 [(0, .ref v0), (1, .int v1), (2, .int v2)] [] Z I L 0 0
  refine j_aload_n E dX12_of_0 0 rfl ?_
  refine j_iconst E (v := 0) dX12_of_1 (by decide) ?_
  refine j_puti E 12 22 rfl rfl (by decide) (by decide) (iw iT_12) tyX12_ok nmX12 rfl rfl (tw W_690) rfl rfl rfl kv0 dX12_of_2 ?_
  refine j_nmI (fun I8 eI8 => ?_)
  have h := h I8 eI8
  refine j_aload_n E dX12_of_5 0 rfl ?_
  refine j_iload_n E dX12_of_6 1 rfl ?_
  refine j_callV E [.int v1] [] (c_X12_isOne (gL G) (gD G) (gY G) v0 v1 Z I8 L _ hZ kv0 h) (gwV W_804 W_805 W_806 W_695 W_803) rfl ⟨rfl, fy_X12_isOne⟩ ⟨by decide, by decide⟩ (c := 12) rfl (by decide) kv0 rfl rfl (Nat.le_of_ble_eq_true rfl) ⟨Nat.zero_le _, Nat.zero_le _⟩ dX12_of_7 (fun v9 Z10 I11 L12 q13 => ?_)
  obtain ⟨rfl, r15, rfl, zr15, h⟩ := q13
  show jJ G 3 10 [(0, .ref v0), (1, .int v1), (2, .int v2)] [.int r15] Z I11 L12 0 0
  refine j_if_eq E 23 dX12_of_10 (by decide) (fun c16 => ?_) (fun c16 => ?_)
  · have h := h.1 c16
    refine j_sub [0] rfl ?_
    exact m_X12_of_b23 E hZ  v0 I11 L12 kv0 h
  · have h := h.2 c16
    refine j_iload_n E dX12_of_13 2 rfl ?_
    refine j_iconst E (v := 0) dX12_of_14 (by decide) ?_
    refine j_bipush E (v := 7) dX12_of_15 (by decide) ?_
    refine j_callS E [.int v2, .int (0 : Int32), .int (7 : Int32)] [] (c_X12_in (gL G) (gD G) (gY G) v2 (0 : Int32) (7 : Int32) Z I11 L12 _ hZ  h) (gwS W_696 W_697 W_695 W_694) rfl fy_X12_in ⟨by decide, by decide⟩ rfl rfl (Nat.le_of_ble_eq_true rfl) ⟨Nat.zero_le _, Nat.zero_le _⟩ dX12_of_17 (fun v17 Z18 I19 L20 q21 => ?_)
    obtain ⟨rfl, r23, rfl, zr23, h⟩ := q21
    show jJ G 3 20 [(0, .ref v0), (1, .int v1), (2, .int v2)] [.int r23] Z I19 L20 0 0
    refine j_if_ne E 28 dX12_of_20 (by decide) (fun c24 => ?_) (fun c24 => ?_)
    · have h := h.1 c24
      refine j_iload_n E dX12_of_28 2 rfl ?_
      by_cases c25 : v2 = 0
      · have h := h.1 c25
        refine j_tableIn E (43) 72 dX12_of_29 (by rw [c25]; decide) (by rw [c25]; decide) (by rw [c25]; rfl) (by decide) ?_
        refine j_aload_n E dX12_of_72 0 rfl ?_
        obtain ⟨b26, eb26, kb26, lb26⟩ := sh_f hZ kv0 (j := 14) (k := 14) (m := 6) rfl
        have h := h b26 eb26
        refine j_getr E 12 14 rfl rfl (by decide) (by decide) (iw iT_12) rfl rfl (tw W_732) kv0 eb26 dX12_of_73 ?_
        refine j_iload_n E dX12_of_76 1 rfl ?_
        obtain ⟨o27, h⟩ := h
        refine j_iald E kb26 (by rw [lb26]; exact o27) dX12_of_77 ?_
        exact j_ireturn E ⟨rfl, _, rfl, h⟩ (Nat.zero_le _) (Nat.zero_le _) dX12_of_78
      · have h := h.2 c25
        by_cases c28 : v2 = 1
        · have h := h.1 c28
          refine j_tableIn E (50) 79 dX12_of_29 (by rw [c28]; decide) (by rw [c28]; decide) (by rw [c28]; rfl) (by decide) ?_
          refine j_aload_n E dX12_of_79 0 rfl ?_
          obtain ⟨b29, eb29, kb29, lb29⟩ := sh_f hZ kv0 (j := 15) (k := 14) (m := 6) rfl
          have h := h b29 eb29
          refine j_getr E 12 15 rfl rfl (by decide) (by decide) (iw iT_12) rfl rfl (tw W_733) kv0 eb29 dX12_of_80 ?_
          refine j_iload_n E dX12_of_83 1 rfl ?_
          obtain ⟨o30, h⟩ := h
          refine j_iald E kb29 (by rw [lb29]; exact o30) dX12_of_84 ?_
          exact j_ireturn E ⟨rfl, _, rfl, h⟩ (Nat.zero_le _) (Nat.zero_le _) dX12_of_85
        · have h := h.2 c28
          by_cases c31 : v2 = 2
          · have h := h.1 c31
            refine j_tableIn E (57) 86 dX12_of_29 (by rw [c31]; decide) (by rw [c31]; decide) (by rw [c31]; rfl) (by decide) ?_
            refine j_aload_n E dX12_of_86 0 rfl ?_
            obtain ⟨b32, eb32, kb32, lb32⟩ := sh_f hZ kv0 (j := 16) (k := 14) (m := 6) rfl
            have h := h b32 eb32
            refine j_getr E 12 16 rfl rfl (by decide) (by decide) (iw iT_12) rfl rfl (tw W_735) kv0 eb32 dX12_of_87 ?_
            refine j_iload_n E dX12_of_90 1 rfl ?_
            obtain ⟨o33, h⟩ := h
            refine j_iald E kb32 (by rw [lb32]; exact o33) dX12_of_91 ?_
            exact j_ireturn E ⟨rfl, _, rfl, h⟩ (Nat.zero_le _) (Nat.zero_le _) dX12_of_92
          · have h := h.2 c31
            by_cases c34 : v2 = 3
            · have h := h.1 c34
              refine j_tableIn E (64) 93 dX12_of_29 (by rw [c34]; decide) (by rw [c34]; decide) (by rw [c34]; rfl) (by decide) ?_
              refine j_aload_n E dX12_of_93 0 rfl ?_
              obtain ⟨b35, eb35, kb35, lb35⟩ := sh_f hZ kv0 (j := 11) (k := 14) (m := 6) rfl
              have h := h b35 eb35
              refine j_getr E 12 11 rfl rfl (by decide) (by decide) (iw iT_12) rfl rfl (tw W_800) kv0 eb35 dX12_of_94 ?_
              refine j_iload_n E dX12_of_97 1 rfl ?_
              obtain ⟨o36, h⟩ := h
              refine j_iald E kb35 (by rw [lb35]; exact o36) dX12_of_98 ?_
              exact j_ireturn E ⟨rfl, _, rfl, h⟩ (Nat.zero_le _) (Nat.zero_le _) dX12_of_99
            · have h := h.2 c34
              by_cases c37 : v2 = 4
              · have h := h.1 c37
                refine j_tableIn E (71) 100 dX12_of_29 (by rw [c37]; decide) (by rw [c37]; decide) (by rw [c37]; rfl) (by decide) ?_
                refine j_aload_n E dX12_of_100 0 rfl ?_
                obtain ⟨b38, eb38, kb38, lb38⟩ := sh_f hZ kv0 (j := 12) (k := 14) (m := 6) rfl
                have h := h b38 eb38
                refine j_getr E 12 12 rfl rfl (by decide) (by decide) (iw iT_12) rfl rfl (tw W_801) kv0 eb38 dX12_of_101 ?_
                refine j_iload_n E dX12_of_104 1 rfl ?_
                obtain ⟨o39, h⟩ := h
                refine j_iald E kb38 (by rw [lb38]; exact o39) dX12_of_105 ?_
                exact j_ireturn E ⟨rfl, _, rfl, h⟩ (Nat.zero_le _) (Nat.zero_le _) dX12_of_106
              · have h := h.2 c37
                by_cases c40 : v2 = 5
                · have h := h.1 c40
                  refine j_tableIn E (78) 107 dX12_of_29 (by rw [c40]; decide) (by rw [c40]; decide) (by rw [c40]; rfl) (by decide) ?_
                  refine j_aload_n E dX12_of_107 0 rfl ?_
                  obtain ⟨b41, eb41, kb41, lb41⟩ := sh_f hZ kv0 (j := 13) (k := 14) (m := 6) rfl
                  have h := h b41 eb41
                  refine j_getr E 12 13 rfl rfl (by decide) (by decide) (iw iT_12) rfl rfl (tw W_802) kv0 eb41 dX12_of_108 ?_
                  refine j_iload_n E dX12_of_111 1 rfl ?_
                  obtain ⟨o42, h⟩ := h
                  refine j_iald E kb41 (by rw [lb41]; exact o42) dX12_of_112 ?_
                  exact j_ireturn E ⟨rfl, _, rfl, h⟩ (Nat.zero_le _) (Nat.zero_le _) dX12_of_113
                · have h := h.2 c40
                  by_cases c43 : v2 = 6
                  · have h := h.1 c43
                    refine j_tableIn E (85) 114 dX12_of_29 (by rw [c43]; decide) (by rw [c43]; decide) (by rw [c43]; rfl) (by decide) ?_
                    refine j_aload_n E dX12_of_114 0 rfl ?_
                    obtain ⟨b44, eb44, kb44, lb44⟩ := sh_f hZ kv0 (j := 9) (k := 14) (m := 6) rfl
                    have h := h b44 eb44
                    refine j_getr E 12 9 rfl rfl (by decide) (by decide) (iw iT_12) rfl rfl (tw W_734) kv0 eb44 dX12_of_115 ?_
                    refine j_iload_n E dX12_of_118 1 rfl ?_
                    obtain ⟨o45, h⟩ := h
                    refine j_iald E kb44 (by rw [lb44]; exact o45) dX12_of_119 ?_
                    exact j_ireturn E ⟨rfl, _, rfl, h⟩ (Nat.zero_le _) (Nat.zero_le _) dX12_of_120
                  · have h := h.2 c43
                    refine j_tableOut E 121 dX12_of_29 (by have tc25 := lv_neT (k := 0) (a := 0) c25 rfl; have tc28 := lv_neT (k := 1) (a := 1) c28 rfl; have tc31 := lv_neT (k := 2) (a := 2) c31 rfl; have tc34 := lv_neT (k := 3) (a := 3) c34 rfl; have tc37 := lv_neT (k := 4) (a := 4) c37 rfl; have tc40 := lv_neT (k := 5) (a := 5) c40 rfl; have tc43 := lv_neT (k := 6) (a := 6) c43 rfl; omega) (by decide) ?_
                    refine j_aload_n E dX12_of_121 0 rfl ?_
                    obtain ⟨b46, eb46, kb46, lb46⟩ := sh_f hZ kv0 (j := 10) (k := 14) (m := 6) rfl
                    have h := h b46 eb46
                    refine j_getr E 12 10 rfl rfl (by decide) (by decide) (iw iT_12) rfl rfl (tw W_736) kv0 eb46 dX12_of_122 ?_
                    refine j_iload_n E dX12_of_125 1 rfl ?_
                    obtain ⟨o47, h⟩ := h
                    refine j_iald E kb46 (by rw [lb46]; exact o47) dX12_of_126 ?_
                    exact j_ireturn E ⟨rfl, _, rfl, h⟩ (Nat.zero_le _) (Nat.zero_le _) dX12_of_127
    · have h := h.2 c24
      refine j_sub [0] rfl ?_
      exact m_X12_of_b23 E hZ  v0 I19 L20 kv0 h
set_option maxRecDepth 100000 in
def f_X12_isMove (v0 : Nat) (v1 : Int32) (v2 : Int32) (v3 : Int32) (Z : jZ) (I : jI) (L : jL) (Q : Int32 → jI → jL → Prop) : Prop := (∀ b1 : Nat, jr Z v0 11 = some b1 → (vp_in v1 6 ∧ (f_X12_in (v3 - v2) (1 : Int32) (I b1 v1.toNatClampNeg) Z I L (fun r9 I5 L6 => Q r9 I5 L6))))
set_option maxHeartbeats 4000000 in
set_option maxRecDepth 100000 in
theorem c_X12_isMove (l : Launch) (D : va_G) (cy : jC) (v0 : Nat) (v1 : Int32) (v2 : Int32) (v3 : Int32) (Z : jZ) (I : jI) (L : jL) (Q : Int32 → jI → jL → Prop) (hZ : SH Z) (kv0 : jk Z v0 12) (h : f_X12_isMove v0 v1 v2 v3 Z I L Q) : jCt l yX12_isMove w_X12_isMove { frames := 1, cells := 0, slots := 0, locals := 22 } D cy [.ref v0, .int v1, .int v2, .int v3] Z I L (rtZ Z Q) := by
  refine jCt_of (cc := cX12_isMove) (maxL := 4) (ret := (some .boolean)) (by decide +kernel) rfl (Nat.le_of_ble_eq_true rfl) ?_
  intro G eD eY eL E
  subst eD; subst eY; subst eL
  have E : jE G cX12_isMove RX12 w_X12_isMove 4 (some .boolean) { frames := 1, cells := 0, slots := 0, locals := 22 } (rtZ Z Q) := E
  show jJ G 4 0 [(0, .ref v0), (1, .int v1), (2, .int v2), (3, .int v3)] [] Z I L 0 0
  refine j_iload_n E dX12_isMove_0 3 rfl ?_
  refine j_iload_n E dX12_isMove_1 2 rfl ?_
  refine j_isub E dX12_isMove_2 ?_
  refine j_iconst E (v := 1) dX12_isMove_3 (by decide) ?_
  refine j_aload_n E dX12_isMove_4 0 rfl ?_
  obtain ⟨b1, eb1, kb1, lb1⟩ := sh_f hZ kv0 (j := 11) (k := 14) (m := 6) rfl
  have h := h b1 eb1
  refine j_getr E 12 11 rfl rfl (by decide) (by decide) (iw iT_12) rfl rfl (tw W_800) kv0 eb1 dX12_isMove_5 ?_
  refine j_iload_n E dX12_isMove_8 1 rfl ?_
  obtain ⟨o2, h⟩ := h
  refine j_iald E kb1 (by rw [lb1]; exact o2) dX12_isMove_9 ?_
  refine j_callS E [.int (v3 - v2), .int (1 : Int32), .int (I b1 v1.toNatClampNeg)] [] (c_X12_in (gL G) (gD G) (gY G) (v3 - v2) (1 : Int32) (I b1 v1.toNatClampNeg) Z I L _ hZ  h) (gwS W_696 W_697 W_695 W_694) rfl fy_X12_in ⟨by decide, by decide⟩ rfl rfl (Nat.le_of_ble_eq_true rfl) ⟨Nat.zero_le _, Nat.zero_le _⟩ dX12_isMove_10 (fun v3 Z4 I5 L6 q7 => ?_)
  obtain ⟨rfl, r9, rfl, zr9, h⟩ := q7
  show jJ G 4 13 [(0, .ref v0), (1, .int v1), (2, .int v2), (3, .int v3)] [.int r9] Z I5 L6 0 0
  exact j_zreturn E zr9 ⟨rfl, _, rfl, zr9, h⟩ (Nat.zero_le _) (Nat.zero_le _) dX12_isMove_13
set_option maxRecDepth 100000 in
def f_X12_effortOf_L8  (Z : jZ) (Q : Int32 → jI → jL → Prop) : Nat → Nat → Int32 → Int32 → Int32 → Int32 → Int32 → jI → jL → Prop
  | 0 => fun _ _ _ _ _ _ _ _ => False
  | n + 1 => fun v0 v1 v2 v3 v4 v5 I L => ((v3 < v5 → (∀ b2 : Nat, jr Z v0 12 = some b2 → (vp_in v1 6 ∧ (∀ b4 : Nat, jr Z v0 2 = some b4 → (vp_in v3 24 ∧ Q (((((v4 * ((10 : Int32) + (I b2 v1.toNatClampNeg))) / (10 : Int32)) + (9 : Int32)) - (I b4 v3.toNatClampNeg)) + ((5 : Int32) * ((v3 - v2) - (1 : Int32)))) I L))))) ∧ (¬ (v3 < v5) → (∀ b6 : Nat, jr Z v0 1 = some b6 → (vp_in v5 24 ∧ (∀ x8 : Int32, x8 = (v4 + (I b6 v5.toNatClampNeg)) → (∀ x9 : Int32, x9 = v5 + 1 → (f_X12_effortOf_L8 Z Q n) v0 v1 v2 v3 x8 x9 I L))))))
set_option maxHeartbeats 4000000 in
set_option maxRecDepth 100000 in
theorem m_X12_effortOf_L8 {G : jG} {Z : jZ} {Q : Int32 → jI → jL → Prop} (E : jE G cX12_effortOf RX12 w_X12_effortOf 6 (some .int) { frames := 0, cells := 0, slots := 0, locals := 0 } (rtI Z Q)) (hZ : SH Z)  : ∀ (n : Nat) (v0 : Nat) (v1 : Int32) (v2 : Int32) (v3 : Int32) (v4 : Int32) (v5 : Int32) (I : jI) (L : jL), jk Z v0 12 → f_X12_effortOf_L8  Z Q n v0 v1 v2 v3 v4 v5 I L → jJ G 6 8 [(0, .ref v0), (1, .int v1), (2, .int v2), (3, .int v3), (4, .int v4), (5, .int v5)] [] Z I L 0 0 := by
  intro n
  induction n with
  | zero => intro v0 v1 v2 v3 v4 v5 I L _ h; exact h.elim
  | succ n ih =>
    intro v0 v1 v2 v3 v4 v5 I L kv0 h
    have h : ((v3 < v5 → (∀ b2 : Nat, jr Z v0 12 = some b2 → (vp_in v1 6 ∧ (∀ b4 : Nat, jr Z v0 2 = some b4 → (vp_in v3 24 ∧ Q (((((v4 * ((10 : Int32) + (I b2 v1.toNatClampNeg))) / (10 : Int32)) + (9 : Int32)) - (I b4 v3.toNatClampNeg)) + ((5 : Int32) * ((v3 - v2) - (1 : Int32)))) I L))))) ∧ (¬ (v3 < v5) → (∀ b6 : Nat, jr Z v0 1 = some b6 → (vp_in v5 24 ∧ (∀ x8 : Int32, x8 = (v4 + (I b6 v5.toNatClampNeg)) → (∀ x9 : Int32, x9 = v5 + 1 → (f_X12_effortOf_L8 Z Q n) v0 v1 v2 v3 x8 x9 I L)))))) := h
    obtain ⟨K8, eK8⟩ : ∃ K : Nat → Int32 → Int32 → Int32 → Int32 → Int32 → jI → jL → Prop, K = f_X12_effortOf_L8  Z Q n := ⟨_, rfl⟩
    have hK8 := ih
    clear eK8 K8
    generalize f_X12_effortOf_L8  Z Q n = K8 at hK8 h
    refine j_iload E dX12_effortOf_8 5 rfl ?_
    refine j_iload_n E dX12_effortOf_10 3 rfl ?_
    refine j_icmp_gt E 32 dX12_effortOf_11 (by decide) (fun c1 => ?_) (fun c1 => ?_)
    · have h := h.1 c1
      refine j_iload E dX12_effortOf_32 4 rfl ?_
      refine j_bipush E (v := 10) dX12_effortOf_34 (by decide) ?_
      refine j_aload_n E dX12_effortOf_36 0 rfl ?_
      obtain ⟨b2, eb2, kb2, lb2⟩ := sh_f hZ kv0 (j := 12) (k := 14) (m := 6) rfl
      have h := h b2 eb2
      refine j_getr E 12 12 rfl rfl (by decide) (by decide) (iw iT_12) rfl rfl (tw W_801) kv0 eb2 dX12_effortOf_37 ?_
      refine j_iload_n E dX12_effortOf_40 1 rfl ?_
      obtain ⟨o3, h⟩ := h
      refine j_iald E kb2 (by rw [lb2]; exact o3) dX12_effortOf_41 ?_
      refine j_iadd E dX12_effortOf_42 ?_
      refine j_imul E dX12_effortOf_43 ?_
      refine j_bipush E (v := 10) dX12_effortOf_44 (by decide) ?_
      refine j_idiv E dX12_effortOf_46 (by decide) ?_
      refine j_bipush E (v := 9) dX12_effortOf_47 (by decide) ?_
      refine j_iadd E dX12_effortOf_49 ?_
      refine j_aload_n E dX12_effortOf_50 0 rfl ?_
      obtain ⟨b4, eb4, kb4, lb4⟩ := sh_f hZ kv0 (j := 2) (k := 14) (m := 24) rfl
      have h := h b4 eb4
      refine j_getr E 12 2 rfl rfl (by decide) (by decide) (iw iT_12) rfl rfl (tw W_742) kv0 eb4 dX12_effortOf_51 ?_
      refine j_iload_n E dX12_effortOf_54 3 rfl ?_
      obtain ⟨o5, h⟩ := h
      refine j_iald E kb4 (by rw [lb4]; exact o5) dX12_effortOf_55 ?_
      refine j_isub E dX12_effortOf_56 ?_
      refine j_iconst E (v := 5) dX12_effortOf_57 (by decide) ?_
      refine j_iload_n E dX12_effortOf_58 3 rfl ?_
      refine j_iload_n E dX12_effortOf_59 2 rfl ?_
      refine j_isub E dX12_effortOf_60 ?_
      refine j_iconst E (v := 1) dX12_effortOf_61 (by decide) ?_
      refine j_isub E dX12_effortOf_62 ?_
      refine j_imul E dX12_effortOf_63 ?_
      refine j_iadd E dX12_effortOf_64 ?_
      exact j_ireturn E ⟨rfl, _, rfl, h⟩ (Nat.zero_le _) (Nat.zero_le _) dX12_effortOf_65
    · have h := h.2 c1
      refine j_iload E dX12_effortOf_14 4 rfl ?_
      refine j_aload_n E dX12_effortOf_16 0 rfl ?_
      obtain ⟨b6, eb6, kb6, lb6⟩ := sh_f hZ kv0 (j := 1) (k := 14) (m := 24) rfl
      have h := h b6 eb6
      refine j_getr E 12 1 rfl rfl (by decide) (by decide) (iw iT_12) rfl rfl (tw W_741) kv0 eb6 dX12_effortOf_17 ?_
      refine j_iload E dX12_effortOf_20 5 rfl ?_
      obtain ⟨o7, h⟩ := h
      refine j_iald E kb6 (by rw [lb6]; exact o7) dX12_effortOf_22 ?_
      refine j_iadd E dX12_effortOf_23 ?_
      refine j_topi (fun x8 ex8 => ?_)
      have h := h x8 ex8
      refine j_istore E 4 [(4, .int x8), (0, .ref v0), (1, .int v1), (2, .int v2), (3, .int v3), (5, .int v5)] dX12_effortOf_24 (by decide) rfl ?_
      obtain ⟨x9, ex9⟩ : ∃ y : Int32, y = v5 + 1 := ⟨_, rfl⟩
      have h := h x9 ex9
      refine j_iinc E x9 [(5, .int x9), (4, .int x8), (0, .ref v0), (1, .int v1), (2, .int v2), (3, .int v3)] dX12_effortOf_26 5 rfl (by rw [ex9]; rfl) (by decide) rfl ?_
      refine j_goto E 8 dX12_effortOf_29 (by decide) ?_
      refine j_sub [2, 3, 4, 5, 1, 0] rfl ?_
      exact hK8 v0 v1 v2 v3 x8 x9 I L kv0 h
set_option maxRecDepth 100000 in
def f_X12_effortOf (v0 : Nat) (v1 : Int32) (v2 : Int32) (v3 : Int32) (Z : jZ) (I : jI) (L : jL) (Q : Int32 → jI → jL → Prop) : Prop := (∀ x10 : Int32, x10 = (v2 + (1 : Int32)) → (∃ m8 : Nat, f_X12_effortOf_L8  Z Q m8 v0 v1 v2 v3 (0 : Int32) x10 I L))
set_option maxHeartbeats 4000000 in
set_option maxRecDepth 100000 in
theorem c_X12_effortOf (l : Launch) (D : va_G) (cy : jC) (v0 : Nat) (v1 : Int32) (v2 : Int32) (v3 : Int32) (Z : jZ) (I : jI) (L : jL) (Q : Int32 → jI → jL → Prop) (hZ : SH Z) (kv0 : jk Z v0 12) (h : f_X12_effortOf v0 v1 v2 v3 Z I L Q) : jCt l yX12_effortOf w_X12_effortOf { frames := 0, cells := 0, slots := 0, locals := 0 } D cy [.ref v0, .int v1, .int v2, .int v3] Z I L (rtI Z Q) := by
  refine jCt_of (cc := cX12_effortOf) (maxL := 6) (ret := (some .int)) (by decide +kernel) rfl (Nat.le_of_ble_eq_true rfl) ?_
  intro G eD eY eL E
  subst eD; subst eY; subst eL
  have E : jE G cX12_effortOf RX12 w_X12_effortOf 6 (some .int) { frames := 0, cells := 0, slots := 0, locals := 0 } (rtI Z Q) := E
  show jJ G 6 0 [(0, .ref v0), (1, .int v1), (2, .int v2), (3, .int v3)] [] Z I L 0 0
  refine j_iconst E (v := 0) dX12_effortOf_0 (by decide) ?_
  refine j_istore E 4 [(4, .int (0 : Int32)), (0, .ref v0), (1, .int v1), (2, .int v2), (3, .int v3)] dX12_effortOf_1 (by decide) rfl ?_
  refine j_iload_n E dX12_effortOf_3 3 rfl ?_
  refine j_iconst E (v := 1) dX12_effortOf_4 (by decide) ?_
  refine j_iadd E dX12_effortOf_5 ?_
  refine j_topi (fun x10 ex10 => ?_)
  have h := h x10 ex10
  refine j_istore E 5 [(5, .int x10), (4, .int (0 : Int32)), (0, .ref v0), (1, .int v1), (2, .int v2), (3, .int v3)] dX12_effortOf_6 (by decide) rfl ?_
  obtain ⟨n11, h⟩ := h
  refine j_sub [2, 3, 4, 5, 1, 0] rfl ?_
  exact m_X12_effortOf_L8 E hZ  n11 v0 v1 v2 v3 (0 : Int32) x10 I L kv0 h
set_option maxRecDepth 100000 in
def f_X12_costOf_L29 (B : Nat × Nat)  (Q : Int32 → jZ → jI → jL → Prop) : Nat → Nat → Int32 → Int32 → Int32 → Int32 → Int32 → Int32 → jZ → jI → jL → Prop
  | 0 => fun _ _ _ _ _ _ _ _ _ _ => False
  | n + 1 => fun v0 v1 v2 v3 v4 v5 v6 Z I L => ((v3 ≤ v6 → Q v5 Z I L) ∧ (¬ (v3 ≤ v6) → (∀ b2 : Nat, jr Z v0 12 = some b2 → (vp_in v1 6 ∧ (f_X12_lawOf B v0 (1 : Int32) v6 v2 (I b2 v1.toNatClampNeg) v4 Z I L (fun r10 Z5 I6 L7 => (∀ x12 : Int32, x12 = (v5 + r10) → (∀ x13 : Int32, x13 = v6 + 1 → (f_X12_costOf_L29 B Q n) v0 v1 v2 v3 v4 x12 x13 Z5 I6 L7))))))))
set_option maxHeartbeats 4000000 in
set_option maxRecDepth 100000 in
theorem m_X12_costOf_L29 {G : jG} {Z0 : jZ} {B : Nat × Nat} {Q : Int32 → jZ → jI → jL → Prop} (E : jE G cX12_costOf RX12 w_X12_costOf 7 (some .int) (jrm B 104 2513 Z0) jRF) (EU : jEU G B Z0 (urtI B Z0 Q))  : ∀ (n : Nat) (v0 : Nat) (v1 : Int32) (v2 : Int32) (v3 : Int32) (v4 : Int32) (v5 : Int32) (v6 : Int32) (Z : jZ) (I : jI) (L : jL), SH Z → jext Z0 Z → jle Z0 Z → jin B Z → jk Z v0 12 → f_X12_costOf_L29 B  Q n v0 v1 v2 v3 v4 v5 v6 Z I L → jJ G 7 29 [(0, .ref v0), (1, .int v1), (2, .int v2), (3, .int v3), (4, .int v4), (5, .int v5), (6, .int v6)] [] Z I L (jcz Z - jcz Z0) (jsz Z - jsz Z0) := by
  intro n
  induction n with
  | zero => intro v0 v1 v2 v3 v4 v5 v6 Z I L _ _ _ _ _ h; exact h.elim
  | succ n ih =>
    intro v0 v1 v2 v3 v4 v5 v6 Z I L hZ hx hc hb kv0 h
    have h : ((v3 ≤ v6 → Q v5 Z I L) ∧ (¬ (v3 ≤ v6) → (∀ b2 : Nat, jr Z v0 12 = some b2 → (vp_in v1 6 ∧ (f_X12_lawOf B v0 (1 : Int32) v6 v2 (I b2 v1.toNatClampNeg) v4 Z I L (fun r10 Z5 I6 L7 => (∀ x12 : Int32, x12 = (v5 + r10) → (∀ x13 : Int32, x13 = v6 + 1 → (f_X12_costOf_L29 B Q n) v0 v1 v2 v3 v4 x12 x13 Z5 I6 L7)))))))) := h
    obtain ⟨K29, eK29⟩ : ∃ K : Nat → Int32 → Int32 → Int32 → Int32 → Int32 → Int32 → jZ → jI → jL → Prop, K = f_X12_costOf_L29 B  Q n := ⟨_, rfl⟩
    have hK29 := ih
    clear eK29 K29
    generalize f_X12_costOf_L29 B  Q n = K29 at hK29 h
    refine j_iload E dX12_costOf_29 6 rfl ?_
    refine j_iload_n E dX12_costOf_31 3 rfl ?_
    refine j_icmp_ge E 62 dX12_costOf_32 (by decide) (fun c1 => ?_) (fun c1 => ?_)
    · have h := h.1 c1
      refine j_iload E dX12_costOf_62 5 rfl ?_
      exact ju_ireturn E EU hc hb ⟨hx, hZ, hb, _, rfl, h⟩ dX12_costOf_64
    · have h := h.2 c1
      refine j_iload E dX12_costOf_35 5 rfl ?_
      refine j_aload_n E dX12_costOf_37 0 rfl ?_
      refine j_iconst E (v := 1) dX12_costOf_38 (by decide) ?_
      refine j_iload E dX12_costOf_39 6 rfl ?_
      refine j_iload_n E dX12_costOf_41 2 rfl ?_
      refine j_aload_n E dX12_costOf_42 0 rfl ?_
      obtain ⟨b2, eb2, kb2, lb2⟩ := sh_f hZ kv0 (j := 12) (k := 14) (m := 6) rfl
      have h := h b2 eb2
      refine j_getr E 12 12 rfl rfl (by decide) (by decide) (iw iT_12) rfl rfl (tw W_801) kv0 eb2 dX12_costOf_43 ?_
      refine j_iload_n E dX12_costOf_46 1 rfl ?_
      obtain ⟨o3, h⟩ := h
      refine j_iald E kb2 (by rw [lb2]; exact o3) dX12_costOf_47 ?_
      refine j_iload E dX12_costOf_48 4 rfl ?_
      refine ju_callV E [.int (1 : Int32), .int v6, .int v2, .int (I b2 v1.toNatClampNeg), .int v4] [.int v5] (c_X12_lawOf (gL G) (gD G) (gY G) B v0 (1 : Int32) v6 v2 (I b2 v1.toNatClampNeg) v4 Z I L _ hZ hb kv0 h) (gwV W_808 W_809 W_810 W_695 W_807) rfl ⟨rfl, fy_X12_lawOf⟩ ⟨Nat.le_of_ble_eq_true rfl, Nat.le_of_ble_eq_true rfl⟩ (c := 12) rfl (by decide) kv0 rfl rfl (Nat.le_of_ble_eq_true rfl) (ju_f hc hb) dX12_costOf_50 (fun v4 Z5 I6 L7 q8 j9 => ?_)
      refine ju_next hc j9 ?_
      have hc := jle_trans hc j9
      obtain ⟨yZ5, hZ5, hbZ5, r10, rfl, h⟩ := q8
      have hZ := hZ5
      have hx : jext Z0 Z5 := jext_trans hx yZ5
      have hb := hbZ5
      have k11 := (yZ5 _ _ kv0).1
      show jJ G 7 53 [(0, .ref v0), (1, .int v1), (2, .int v2), (3, .int v3), (4, .int v4), (5, .int v5), (6, .int v6)] [.int r10, .int v5] Z5 I6 L7 (jcz Z5 - jcz Z0) (jsz Z5 - jsz Z0)
      refine j_iadd E dX12_costOf_53 ?_
      refine j_topi (fun x12 ex12 => ?_)
      have h := h x12 ex12
      refine j_istore E 5 [(5, .int x12), (0, .ref v0), (1, .int v1), (2, .int v2), (3, .int v3), (4, .int v4), (6, .int v6)] dX12_costOf_54 (by decide) rfl ?_
      obtain ⟨x13, ex13⟩ : ∃ y : Int32, y = v6 + 1 := ⟨_, rfl⟩
      have h := h x13 ex13
      refine j_iinc E x13 [(6, .int x13), (5, .int x12), (0, .ref v0), (1, .int v1), (2, .int v2), (3, .int v3), (4, .int v4)] dX12_costOf_56 6 rfl (by rw [ex13]; rfl) (by decide) rfl ?_
      refine j_goto E 29 dX12_costOf_59 (by decide) ?_
      refine j_sub [2, 3, 4, 5, 6, 1, 0] rfl ?_
      exact hK29 v0 v1 v2 v3 v4 x12 x13 Z5 I6 L7 hZ hx hc hb k11 h
set_option maxRecDepth 100000 in
def f_X12_costOf (B : Nat × Nat) (v0 : Nat) (v1 : Int32) (v2 : Int32) (v3 : Int32) (Z : jZ) (I : jI) (L : jL) (Q : Int32 → jZ → jI → jL → Prop) : Prop := (∀ x14 : Int32, x14 = ((v3 - v2) - (1 : Int32)) → (∀ b15 : Nat, jr Z v0 12 = some b15 → (vp_in v1 6 ∧ (f_X12_lawOf B v0 (0 : Int32) v3 v2 (I b15 v1.toNatClampNeg) x14 Z I L (fun r23 Z18 I19 L20 => (∀ x25 : Int32, x25 = (v2 + (1 : Int32)) → (∃ m29 : Nat, f_X12_costOf_L29 B  Q m29 v0 v1 v2 v3 x14 r23 x25 Z18 I19 L20)))))))
set_option maxHeartbeats 4000000 in
set_option maxRecDepth 100000 in
theorem c_X12_costOf (l : Launch) (D : va_G) (cy : jC) (B : Nat × Nat) (v0 : Nat) (v1 : Int32) (v2 : Int32) (v3 : Int32) (Z : jZ) (I : jI) (L : jL) (Q : Int32 → jZ → jI → jL → Prop) (hZ : SH Z) (hb : jin B Z) (kv0 : jk Z v0 12) (h : f_X12_costOf B v0 v1 v2 v3 Z I L Q) : jCtU l yX12_costOf w_X12_costOf B 104 2513 D cy [.ref v0, .int v1, .int v2, .int v3] Z I L (urtI B Z Q) := by
  refine jCtU_of (cc := cX12_costOf) (maxL := 7) (ret := (some .int)) (by decide +kernel) rfl (Nat.le_of_ble_eq_true rfl) ?_
  intro G eD eY eL E EU
  subst eD; subst eY; subst eL
  have E : jE G cX12_costOf RX12 w_X12_costOf 7 (some .int) (jrm B 104 2513 Z) jRF := E
  have hx : jext Z Z := jext_rfl
  have hc : jle Z Z := jle_rfl
  show jJ G 7 0 [(0, .ref v0), (1, .int v1), (2, .int v2), (3, .int v3)] [] Z I L (jcz Z - jcz Z) (jsz Z - jsz Z)
  refine j_iload_n E dX12_costOf_0 3 rfl ?_
  refine j_iload_n E dX12_costOf_1 2 rfl ?_
  refine j_isub E dX12_costOf_2 ?_
  refine j_iconst E (v := 1) dX12_costOf_3 (by decide) ?_
  refine j_isub E dX12_costOf_4 ?_
  refine j_topi (fun x14 ex14 => ?_)
  have h := h x14 ex14
  refine j_istore E 4 [(4, .int x14), (0, .ref v0), (1, .int v1), (2, .int v2), (3, .int v3)] dX12_costOf_5 (by decide) rfl ?_
  refine j_aload_n E dX12_costOf_7 1 rfl ?_
  refine j_iconst E (v := 0) dX12_costOf_8 (by decide) ?_
  refine j_iload_n E dX12_costOf_9 4 rfl ?_
  refine j_iload_n E dX12_costOf_10 3 rfl ?_
  refine j_aload_n E dX12_costOf_11 1 rfl ?_
  obtain ⟨b15, eb15, kb15, lb15⟩ := sh_f hZ kv0 (j := 12) (k := 14) (m := 6) rfl
  have h := h b15 eb15
  refine j_getr E 12 12 rfl rfl (by decide) (by decide) (iw iT_12) rfl rfl (tw W_801) kv0 eb15 dX12_costOf_12 ?_
  refine j_iload_n E dX12_costOf_15 2 rfl ?_
  obtain ⟨o16, h⟩ := h
  refine j_iald E kb15 (by rw [lb15]; exact o16) dX12_costOf_16 ?_
  refine j_iload E dX12_costOf_17 0 rfl ?_
  refine ju_callV E [.int (0 : Int32), .int v3, .int v2, .int (I b15 v1.toNatClampNeg), .int x14] [] (c_X12_lawOf (gL G) (gD G) (gY G) B v0 (0 : Int32) v3 v2 (I b15 v1.toNatClampNeg) x14 Z I L _ hZ hb kv0 h) (gwV W_808 W_809 W_810 W_695 W_807) rfl ⟨rfl, fy_X12_lawOf⟩ ⟨Nat.le_of_ble_eq_true rfl, Nat.le_of_ble_eq_true rfl⟩ (c := 12) rfl (by decide) kv0 rfl rfl (Nat.le_of_ble_eq_true rfl) (ju_f hc hb) dX12_costOf_19 (fun v17 Z18 I19 L20 q21 j22 => ?_)
  refine ju_next hc j22 ?_
  have hc := jle_trans hc j22
  obtain ⟨yZ18, hZ18, hbZ18, r23, rfl, h⟩ := q21
  have hZ := hZ18
  have hx : jext Z Z18 := jext_trans hx yZ18
  have hb := hbZ18
  have k24 := (yZ18 _ _ kv0).1
  show jJ G 7 22 [(4, .int x14), (0, .ref v0), (1, .int v1), (2, .int v2), (3, .int v3)] [.int r23] Z18 I19 L20 (jcz Z18 - jcz Z) (jsz Z18 - jsz Z)
  refine j_istore E 5 [(5, .int r23), (4, .int x14), (0, .ref v0), (1, .int v1), (2, .int v2), (3, .int v3)] dX12_costOf_22 (by decide) rfl ?_
  refine j_iload_n E dX12_costOf_24 4 rfl ?_
  refine j_iconst E (v := 1) dX12_costOf_25 (by decide) ?_
  refine j_iadd E dX12_costOf_26 ?_
  refine j_topi (fun x25 ex25 => ?_)
  have h := h x25 ex25
  refine j_istore E 6 [(6, .int x25), (5, .int r23), (4, .int x14), (0, .ref v0), (1, .int v1), (2, .int v2), (3, .int v3)] dX12_costOf_27 (by decide) rfl ?_
  obtain ⟨n26, h⟩ := h
  refine j_sub [3, 4, 5, 6, 2, 1, 0] rfl ?_
  exact m_X12_costOf_L29 E EU  n26 v0 v1 v2 v3 x14 r23 x25 Z18 I19 L20 hZ hx hc hb k24 h
set_option maxRecDepth 100000 in
def f_X12_costs (B : Nat × Nat) (v0 : Nat) (v1 : Int32) (v2 : Int32) (Z : jZ) (I : jI) (L : jL) (Q : Int32 → jZ → jI → jL → Prop) : Prop := (∀ I1 : jI, I1 = jpI I v0 22 (0 : Int32) → (f_X12_isOne v0 v1 Z I1 L (fun r8 I4 L5 => ((r8 = 0 → Q (-1 : Int32) Z I4 L5) ∧ (¬ (r8 = 0) → (f_X12_isStep v0 v2 Z I4 L5 (fun r16 I12 L13 => ((¬ r16 = 0 → (∀ b18 : Nat, jr Z v0 14 = some b18 → (vp_in v1 6 ∧ (f_X12_isMove v0 v1 (I12 b18 v1.toNatClampNeg) v2 Z I12 L13 (fun r26 I22 L23 => ((¬ r26 = 0 → (∀ I28 : jI, I28 = jpI I22 v0 21 (0 : Int32) → (∀ b29 : Nat, jr Z v0 14 = some b29 → (vp_in v1 6 ∧ (f_X12_effortOf v0 v1 (I28 b29 v1.toNatClampNeg) v2 Z I28 L23 (fun r37 I33 L34 => (f_X12_tell v0 (r37.toInt64) Z I33 L34 (fun I40 L41 => (∀ b44 : Nat, jr Z v0 14 = some b44 → (vp_in v1 6 ∧ (f_X12_tell v0 (((v2 - (I40 b44 v1.toNatClampNeg)) - (1 : Int32)).toInt64) Z I40 L41 (fun I48 L49 => (∀ b52 : Nat, jr Z v0 14 = some b52 → (vp_in v1 6 ∧ (f_X12_costOf B v0 v1 (I48 b52 v1.toNatClampNeg) v2 Z I48 L49 (fun r60 Z55 I56 L57 => Q r60 Z55 I56 L57)))))))))))))))) ∧ (r26 = 0 → Q (-2 : Int32) Z I22 L23))))))) ∧ (r16 = 0 → Q (-1 : Int32) Z I12 L13)))))))))
set_option maxHeartbeats 4000000 in
set_option maxRecDepth 100000 in
theorem c_X12_costs (l : Launch) (D : va_G) (cy : jC) (B : Nat × Nat) (v0 : Nat) (v1 : Int32) (v2 : Int32) (Z : jZ) (I : jI) (L : jL) (Q : Int32 → jZ → jI → jL → Prop) (hZ : SH Z) (hb : jin B Z) (kv0 : jk Z v0 12) (h : f_X12_costs B v0 v1 v2 Z I L Q) : jCtU l yX12_costs w_X12_costs B 105 2539 D cy [.ref v0, .int v1, .int v2] Z I L (urtI B Z Q) := by
  refine jCtU_of (cc := cX12_costs) (maxL := 3) (ret := (some .int)) (by decide +kernel) rfl (Nat.le_of_ble_eq_true rfl) ?_
  intro G eD eY eL E EU
  subst eD; subst eY; subst eL
  have E : jE G cX12_costs RX12 w_X12_costs 3 (some .int) (jrm B 105 2539 Z) jRF := E
  have hx : jext Z Z := jext_rfl
  have hc : jle Z Z := jle_rfl
  show jJ G 3 0 [(0, .ref v0), (1, .int v1), (2, .int v2)] [] Z I L (jcz Z - jcz Z) (jsz Z - jsz Z)
  refine j_aload_n E dX12_costs_0 0 rfl ?_
  refine j_iconst E (v := 0) dX12_costs_1 (by decide) ?_
  refine j_puti E 12 22 rfl rfl (by decide) (by decide) (iw iT_12) tyX12_ok nmX12 rfl rfl (tw W_690) rfl rfl rfl kv0 dX12_costs_2 ?_
  refine j_nmI (fun I1 eI1 => ?_)
  have h := h I1 eI1
  refine j_aload_n E dX12_costs_5 0 rfl ?_
  refine j_iload_n E dX12_costs_6 1 rfl ?_
  refine j_callV E [.int v1] [] (c_X12_isOne (gL G) (gD G) (gY G) v0 v1 Z I1 L _ hZ kv0 h) (gwV W_804 W_805 W_806 W_695 W_803) rfl ⟨rfl, fy_X12_isOne⟩ ⟨Nat.le_of_ble_eq_true rfl, Nat.le_of_ble_eq_true rfl⟩ (c := 12) rfl (by decide) kv0 rfl rfl (Nat.le_of_ble_eq_true rfl) (ju_kn hb) dX12_costs_7 (fun v2 Z3 I4 L5 q6 => ?_)
  obtain ⟨rfl, r8, rfl, zr8, h⟩ := q6
  show jJ G 3 10 [(0, .ref v0), (1, .int v1), (2, .int v2)] [.int r8] Z I4 L5 (jcz Z - jcz Z) (jsz Z - jsz Z)
  refine j_if_eq E 21 dX12_costs_10 (by decide) (fun c9 => ?_) (fun c9 => ?_)
  · have h := h.1 c9
    refine j_iconst E (v := -1) dX12_costs_21 (by decide) ?_
    exact ju_ireturn E EU hc hb ⟨hx, hZ, hb, _, rfl, h⟩ dX12_costs_22
  · have h := h.2 c9
    refine j_aload_n E dX12_costs_13 0 rfl ?_
    refine j_iload_n E dX12_costs_14 2 rfl ?_
    refine j_callV E [.int v2] [] (c_X12_isStep (gL G) (gD G) (gY G) v0 v2 Z I4 L5 _ hZ kv0 h) (gwV W_790 W_791 W_792 W_695 W_789) rfl ⟨rfl, fy_X12_isStep⟩ ⟨Nat.le_of_ble_eq_true rfl, Nat.le_of_ble_eq_true rfl⟩ (c := 12) rfl (by decide) kv0 rfl rfl (Nat.le_of_ble_eq_true rfl) (ju_kn hb) dX12_costs_15 (fun v10 Z11 I12 L13 q14 => ?_)
    obtain ⟨rfl, r16, rfl, zr16, h⟩ := q14
    show jJ G 3 18 [(0, .ref v0), (1, .int v1), (2, .int v2)] [.int r16] Z I12 L13 (jcz Z - jcz Z) (jsz Z - jsz Z)
    refine j_if_ne E 23 dX12_costs_18 (by decide) (fun c17 => ?_) (fun c17 => ?_)
    · have h := h.1 c17
      refine j_aload_n E dX12_costs_23 0 rfl ?_
      refine j_iload_n E dX12_costs_24 1 rfl ?_
      refine j_aload_n E dX12_costs_25 0 rfl ?_
      obtain ⟨b18, eb18, kb18, lb18⟩ := sh_f hZ kv0 (j := 14) (k := 14) (m := 6) rfl
      have h := h b18 eb18
      refine j_getr E 12 14 rfl rfl (by decide) (by decide) (iw iT_12) rfl rfl (tw W_732) kv0 eb18 dX12_costs_26 ?_
      refine j_iload_n E dX12_costs_29 1 rfl ?_
      obtain ⟨o19, h⟩ := h
      refine j_iald E kb18 (by rw [lb18]; exact o19) dX12_costs_30 ?_
      refine j_iload_n E dX12_costs_31 2 rfl ?_
      refine j_callV E [.int v1, .int (I12 b18 v1.toNatClampNeg), .int v2] [] (c_X12_isMove (gL G) (gD G) (gY G) v0 v1 (I12 b18 v1.toNatClampNeg) v2 Z I12 L13 _ hZ kv0 h) (gwV W_812 W_813 W_814 W_695 W_811) rfl ⟨rfl, fy_X12_isMove⟩ ⟨Nat.le_of_ble_eq_true rfl, Nat.le_of_ble_eq_true rfl⟩ (c := 12) rfl (by decide) kv0 rfl rfl (Nat.le_of_ble_eq_true rfl) (ju_kn hb) dX12_costs_32 (fun v20 Z21 I22 L23 q24 => ?_)
      obtain ⟨rfl, r26, rfl, zr26, h⟩ := q24
      show jJ G 3 35 [(0, .ref v0), (1, .int v1), (2, .int v2)] [.int r26] Z I22 L23 (jcz Z - jcz Z) (jsz Z - jsz Z)
      refine j_if_ne E 41 dX12_costs_35 (by decide) (fun c27 => ?_) (fun c27 => ?_)
      · have h := h.1 c27
        refine j_aload_n E dX12_costs_41 0 rfl ?_
        refine j_iconst E (v := 0) dX12_costs_42 (by decide) ?_
        refine j_puti E 12 21 rfl rfl (by decide) (by decide) (iw iT_12) tyX12_ok nmX12 rfl rfl (tw W_692) rfl rfl rfl kv0 dX12_costs_43 ?_
        refine j_nmI (fun I28 eI28 => ?_)
        have h := h I28 eI28
        refine j_aload_n E dX12_costs_46 0 rfl ?_
        refine j_aload_n E dX12_costs_47 0 rfl ?_
        refine j_iload_n E dX12_costs_48 1 rfl ?_
        refine j_aload_n E dX12_costs_49 0 rfl ?_
        obtain ⟨b29, eb29, kb29, lb29⟩ := sh_f hZ kv0 (j := 14) (k := 14) (m := 6) rfl
        have h := h b29 eb29
        refine j_getr E 12 14 rfl rfl (by decide) (by decide) (iw iT_12) rfl rfl (tw W_732) kv0 eb29 dX12_costs_50 ?_
        refine j_iload_n E dX12_costs_53 1 rfl ?_
        obtain ⟨o30, h⟩ := h
        refine j_iald E kb29 (by rw [lb29]; exact o30) dX12_costs_54 ?_
        refine j_iload_n E dX12_costs_55 2 rfl ?_
        refine j_callV E [.int v1, .int (I28 b29 v1.toNatClampNeg), .int v2] [.ref v0] (c_X12_effortOf (gL G) (gD G) (gY G) v0 v1 (I28 b29 v1.toNatClampNeg) v2 Z I28 L23 _ hZ kv0 h) (gwV W_816 W_817 W_818 W_695 W_815) rfl ⟨rfl, fy_X12_effortOf⟩ ⟨Nat.le_of_ble_eq_true rfl, Nat.le_of_ble_eq_true rfl⟩ (c := 12) rfl (by decide) kv0 rfl rfl (Nat.le_of_ble_eq_true rfl) (ju_kn hb) dX12_costs_56 (fun v31 Z32 I33 L34 q35 => ?_)
        obtain ⟨rfl, r37, rfl, h⟩ := q35
        show jJ G 3 59 [(0, .ref v0), (1, .int v1), (2, .int v2)] [.int r37, .ref v0] Z I33 L34 (jcz Z - jcz Z) (jsz Z - jsz Z)
        refine j_i2l E dX12_costs_59 ?_
        refine j_callV E [.long (r37.toInt64)] [] (c_X12_tell (gL G) (gD G) (gY G) v0 (r37.toInt64) Z I33 L34 _ hZ kv0 h) (gwV W_820 W_821 W_822 W_695 W_819) rfl ⟨rfl, fy_X12_tell⟩ ⟨Nat.le_of_ble_eq_true rfl, Nat.le_of_ble_eq_true rfl⟩ (c := 12) rfl (by decide) kv0 rfl rfl (Nat.le_of_ble_eq_true rfl) (ju_kn hb) dX12_costs_60 (fun v38 Z39 I40 L41 q42 => ?_)
        obtain ⟨rfl, rfl, h⟩ := q42
        show jJ G 3 63 [(0, .ref v0), (1, .int v1), (2, .int v2)] [] Z I40 L41 (jcz Z - jcz Z) (jsz Z - jsz Z)
        refine j_aload_n E dX12_costs_63 0 rfl ?_
        refine j_iload_n E dX12_costs_64 2 rfl ?_
        refine j_aload_n E dX12_costs_65 0 rfl ?_
        obtain ⟨b44, eb44, kb44, lb44⟩ := sh_f hZ kv0 (j := 14) (k := 14) (m := 6) rfl
        have h := h b44 eb44
        refine j_getr E 12 14 rfl rfl (by decide) (by decide) (iw iT_12) rfl rfl (tw W_732) kv0 eb44 dX12_costs_66 ?_
        refine j_iload_n E dX12_costs_69 1 rfl ?_
        obtain ⟨o45, h⟩ := h
        refine j_iald E kb44 (by rw [lb44]; exact o45) dX12_costs_70 ?_
        refine j_isub E dX12_costs_71 ?_
        refine j_iconst E (v := 1) dX12_costs_72 (by decide) ?_
        refine j_isub E dX12_costs_73 ?_
        refine j_i2l E dX12_costs_74 ?_
        refine j_callV E [.long (((v2 - (I40 b44 v1.toNatClampNeg)) - (1 : Int32)).toInt64)] [] (c_X12_tell (gL G) (gD G) (gY G) v0 (((v2 - (I40 b44 v1.toNatClampNeg)) - (1 : Int32)).toInt64) Z I40 L41 _ hZ kv0 h) (gwV W_820 W_821 W_822 W_695 W_819) rfl ⟨rfl, fy_X12_tell⟩ ⟨Nat.le_of_ble_eq_true rfl, Nat.le_of_ble_eq_true rfl⟩ (c := 12) rfl (by decide) kv0 rfl rfl (Nat.le_of_ble_eq_true rfl) (ju_kn hb) dX12_costs_75 (fun v46 Z47 I48 L49 q50 => ?_)
        obtain ⟨rfl, rfl, h⟩ := q50
        show jJ G 3 78 [(0, .ref v0), (1, .int v1), (2, .int v2)] [] Z I48 L49 (jcz Z - jcz Z) (jsz Z - jsz Z)
        refine j_aload_n E dX12_costs_78 0 rfl ?_
        refine j_iload_n E dX12_costs_79 1 rfl ?_
        refine j_aload_n E dX12_costs_80 0 rfl ?_
        obtain ⟨b52, eb52, kb52, lb52⟩ := sh_f hZ kv0 (j := 14) (k := 14) (m := 6) rfl
        have h := h b52 eb52
        refine j_getr E 12 14 rfl rfl (by decide) (by decide) (iw iT_12) rfl rfl (tw W_732) kv0 eb52 dX12_costs_81 ?_
        refine j_iload_n E dX12_costs_84 1 rfl ?_
        obtain ⟨o53, h⟩ := h
        refine j_iald E kb52 (by rw [lb52]; exact o53) dX12_costs_85 ?_
        refine j_iload_n E dX12_costs_86 2 rfl ?_
        refine ju_callV E [.int v1, .int (I48 b52 v1.toNatClampNeg), .int v2] [] (c_X12_costOf (gL G) (gD G) (gY G) B v0 v1 (I48 b52 v1.toNatClampNeg) v2 Z I48 L49 _ hZ hb kv0 h) (gwV W_824 W_825 W_826 W_695 W_823) rfl ⟨rfl, fy_X12_costOf⟩ ⟨Nat.le_of_ble_eq_true rfl, Nat.le_of_ble_eq_true rfl⟩ (c := 12) rfl (by decide) kv0 rfl rfl (Nat.le_of_ble_eq_true rfl) (ju_f hc hb) dX12_costs_87 (fun v54 Z55 I56 L57 q58 j59 => ?_)
        refine ju_next hc j59 ?_
        have hc := jle_trans hc j59
        obtain ⟨yZ55, hZ55, hbZ55, r60, rfl, h⟩ := q58
        have hZ := hZ55
        have hx : jext Z Z55 := jext_trans hx yZ55
        have hb := hbZ55
        have k61 := (yZ55 _ _ kv0).1
        show jJ G 3 90 [(0, .ref v0), (1, .int v1), (2, .int v2)] [.int r60] Z55 I56 L57 (jcz Z55 - jcz Z) (jsz Z55 - jsz Z)
        exact ju_ireturn E EU hc hb ⟨hx, hZ, hb, _, rfl, h⟩ dX12_costs_90
      · have h := h.2 c27
        refine j_bipush E (v := -2) dX12_costs_38 (by decide) ?_
        exact ju_ireturn E EU hc hb ⟨hx, hZ, hb, _, rfl, h⟩ dX12_costs_40
    · have h := h.2 c17
      refine j_iconst E (v := -1) dX12_costs_21 (by decide) ?_
      exact ju_ireturn E EU hc hb ⟨hx, hZ, hb, _, rfl, h⟩ dX12_costs_22
set_option maxRecDepth 100000 in
def f_X12_divide_b176 (K136 : Nat → Int32 → jI → jL → Prop) (K147 : Nat → Int32 → Int32 → Int32 → jI → jL → Prop) (Z : jZ) (Q : jI → jL → Prop) (v0 : Nat) (v5 : Int32) (v6 : Int32) (v7 : Int32) (I : jI) (L : jL) : Prop := (∀ x1 : Int32, x1 = v7 + 1 → K147 v0 v5 v6 x1 I L)
set_option maxHeartbeats 4000000 in
set_option maxRecDepth 100000 in
theorem m_X12_divide_b176 {G : jG} {Z : jZ} {Q : jI → jL → Prop} (E : jE G cX12_divide RX12 w_X12_divide 10 none { frames := 0, cells := 0, slots := 0, locals := 0 } (rtV Z Q)) (hZ : SH Z) (K136 : Nat → Int32 → jI → jL → Prop) (hK136 : ∀ (v0 : Nat) (v5 : Int32) (I : jI) (L : jL), jk Z v0 12 → K136 v0 v5 I L → jJ G 10 136 [(0, .ref v0), (5, .int v5)] [] Z I L 0 0) (K147 : Nat → Int32 → Int32 → Int32 → jI → jL → Prop) (hK147 : ∀ (v0 : Nat) (v5 : Int32) (v6 : Int32) (v7 : Int32) (I : jI) (L : jL), jk Z v0 12 → K147 v0 v5 v6 v7 I L → jJ G 10 147 [(0, .ref v0), (5, .int v5), (6, .int v6), (7, .int v7)] [] Z I L 0 0) (v0 : Nat) (v5 : Int32) (v6 : Int32) (v7 : Int32) (I : jI) (L : jL) (kv0 : jk Z v0 12) (h : f_X12_divide_b176 K136 K147 Z Q v0 v5 v6 v7 I L) : jJ G 10 176 [(0, .ref v0), (5, .int v5), (6, .int v6), (7, .int v7)] [] Z I L 0 0 := by
  obtain ⟨x1, ex1⟩ : ∃ y : Int32, y = v7 + 1 := ⟨_, rfl⟩
  have h := h x1 ex1
  refine j_iinc E x1 [(7, .int x1), (0, .ref v0), (5, .int v5), (6, .int v6)] dX12_divide_176 3 rfl (by rw [ex1]; rfl) (by decide) rfl ?_
  refine j_goto E 147 dX12_divide_179 (by decide) ?_
  refine j_sub [1, 2, 3, 0] rfl ?_
  exact hK147 v0 v5 v6 x1 I L kv0 h
set_option maxRecDepth 100000 in
def f_X12_divide_L147 (K136 : Nat → Int32 → jI → jL → Prop) (Z : jZ) (Q : jI → jL → Prop) : Nat → Nat → Int32 → Int32 → Int32 → jI → jL → Prop
  | 0 => fun _ _ _ _ _ _ => False
  | n + 1 => fun v0 v5 v6 v7 I L => (((8 : Int32) ≤ v7 → (∀ b3 : Nat, jr Z v0 35 = some b3 → (vp_in v6 8 ∧ (vp_in v6 8 ∧ (∀ I6 : jI, I6 = jpI I b3 v6.toNatClampNeg ((I b3 v6.toNatClampNeg) + (1 : Int32)) → (∀ b7 : Nat, jr Z v0 36 = some b7 → (vp_in v6 8 ∧ (∀ L9 : jL, L9 = jpL L b7 v6.toNatClampNeg (-1 : Int64) → (∀ x10 : Int32, x10 = v5 + (-1) → K136 v0 x10 I6 L9))))))))) ∧ (¬ ((8 : Int32) ≤ v7) → (∀ b11 : Nat, jr Z v0 36 = some b11 → (vp_in v7 8 ∧ (∀ b13 : Nat, jr Z v0 36 = some b13 → (vp_in v6 8 ∧ (((lg_cmp (L b11 v7.toNatClampNeg) (L b13 v6.toNatClampNeg)) ≤ 0 → f_X12_divide_b176 K136 (f_X12_divide_L147 K136 Z Q n) Z Q v0 v5 v6 v7 I L) ∧ (¬ ((lg_cmp (L b11 v7.toNatClampNeg) (L b13 v6.toNatClampNeg)) ≤ 0) → f_X12_divide_b176 K136 (f_X12_divide_L147 K136 Z Q n) Z Q v0 v5 v7 v7 I L))))))))
set_option maxHeartbeats 4000000 in
set_option maxRecDepth 100000 in
theorem m_X12_divide_L147 {G : jG} {Z : jZ} {Q : jI → jL → Prop} (E : jE G cX12_divide RX12 w_X12_divide 10 none { frames := 0, cells := 0, slots := 0, locals := 0 } (rtV Z Q)) (hZ : SH Z) (K136 : Nat → Int32 → jI → jL → Prop) (hK136 : ∀ (v0 : Nat) (v5 : Int32) (I : jI) (L : jL), jk Z v0 12 → K136 v0 v5 I L → jJ G 10 136 [(0, .ref v0), (5, .int v5)] [] Z I L 0 0) : ∀ (n : Nat) (v0 : Nat) (v5 : Int32) (v6 : Int32) (v7 : Int32) (I : jI) (L : jL), jk Z v0 12 → f_X12_divide_L147 K136 Z Q n v0 v5 v6 v7 I L → jJ G 10 147 [(0, .ref v0), (5, .int v5), (6, .int v6), (7, .int v7)] [] Z I L 0 0 := by
  intro n
  induction n with
  | zero => intro v0 v5 v6 v7 I L _ h; exact h.elim
  | succ n ih =>
    intro v0 v5 v6 v7 I L kv0 h
    have h : (((8 : Int32) ≤ v7 → (∀ b3 : Nat, jr Z v0 35 = some b3 → (vp_in v6 8 ∧ (vp_in v6 8 ∧ (∀ I6 : jI, I6 = jpI I b3 v6.toNatClampNeg ((I b3 v6.toNatClampNeg) + (1 : Int32)) → (∀ b7 : Nat, jr Z v0 36 = some b7 → (vp_in v6 8 ∧ (∀ L9 : jL, L9 = jpL L b7 v6.toNatClampNeg (-1 : Int64) → (∀ x10 : Int32, x10 = v5 + (-1) → K136 v0 x10 I6 L9))))))))) ∧ (¬ ((8 : Int32) ≤ v7) → (∀ b11 : Nat, jr Z v0 36 = some b11 → (vp_in v7 8 ∧ (∀ b13 : Nat, jr Z v0 36 = some b13 → (vp_in v6 8 ∧ (((lg_cmp (L b11 v7.toNatClampNeg) (L b13 v6.toNatClampNeg)) ≤ 0 → f_X12_divide_b176 K136 (f_X12_divide_L147 K136 Z Q n) Z Q v0 v5 v6 v7 I L) ∧ (¬ ((lg_cmp (L b11 v7.toNatClampNeg) (L b13 v6.toNatClampNeg)) ≤ 0) → f_X12_divide_b176 K136 (f_X12_divide_L147 K136 Z Q n) Z Q v0 v5 v7 v7 I L)))))))) := h
    obtain ⟨K147, eK147⟩ : ∃ K : Nat → Int32 → Int32 → Int32 → jI → jL → Prop, K = f_X12_divide_L147 K136 Z Q n := ⟨_, rfl⟩
    have hK147 := ih
    clear eK147 K147
    generalize f_X12_divide_L147 K136 Z Q n = K147 at hK147 h
    refine j_iload E dX12_divide_147 3 rfl ?_
    refine j_bipush E (v := 8) dX12_divide_149 (by decide) ?_
    refine j_icmp_ge E 182 dX12_divide_151 (by decide) (fun c2 => ?_) (fun c2 => ?_)
    · have h := h.1 c2
      refine j_aload_n E dX12_divide_182 0 rfl ?_
      obtain ⟨b3, eb3, kb3, lb3⟩ := sh_f hZ kv0 (j := 35) (k := 14) (m := 8) rfl
      have h := h b3 eb3
      refine j_getr E 12 35 rfl rfl (by decide) (by decide) (iw iT_12) rfl rfl (tw W_827) kv0 eb3 dX12_divide_183 ?_
      refine j_iload E dX12_divide_186 2 rfl ?_
      refine j_dup2_11 E dX12_divide_188 rfl rfl ?_
      obtain ⟨o4, h⟩ := h
      refine j_iald E kb3 (by rw [lb3]; exact o4) dX12_divide_189 ?_
      refine j_iconst E (v := 1) dX12_divide_190 (by decide) ?_
      refine j_iadd E dX12_divide_191 ?_
      obtain ⟨o5, h⟩ := h
      refine j_iast E kb3 (by rw [lb3]; exact o5) dX12_divide_192 ?_
      refine j_nmI (fun I6 eI6 => ?_)
      have h := h I6 eI6
      refine j_aload_n E dX12_divide_193 0 rfl ?_
      obtain ⟨b7, eb7, kb7, lb7⟩ := sh_f hZ kv0 (j := 36) (k := 15) (m := 8) rfl
      have h := h b7 eb7
      refine j_getr E 12 36 rfl rfl (by decide) (by decide) (iw iT_12) rfl rfl (tw W_828) kv0 eb7 dX12_divide_194 ?_
      refine j_iload E dX12_divide_197 2 rfl ?_
      refine j_ldc2 E (tw W_829) dX12_divide_199 ?_
      obtain ⟨o8, h⟩ := h
      refine j_last E kb7 (by rw [lb7]; exact o8) dX12_divide_202 ?_
      refine j_nmL (fun L9 eL9 => ?_)
      have h := h L9 eL9
      obtain ⟨x10, ex10⟩ : ∃ y : Int32, y = v5 + (-1) := ⟨_, rfl⟩
      have h := h x10 ex10
      refine j_iinc E x10 [(5, .int x10), (0, .ref v0), (6, .int v6), (7, .int v7)] dX12_divide_203 1 rfl (by rw [ex10]; rfl) (by decide) rfl ?_
      refine j_goto E 136 dX12_divide_206 (by decide) ?_
      refine j_sub [1, 0] rfl ?_
      exact hK136 v0 x10 I6 L9 kv0 h
    · have h := h.2 c2
      refine j_aload_n E dX12_divide_154 0 rfl ?_
      obtain ⟨b11, eb11, kb11, lb11⟩ := sh_f hZ kv0 (j := 36) (k := 15) (m := 8) rfl
      have h := h b11 eb11
      refine j_getr E 12 36 rfl rfl (by decide) (by decide) (iw iT_12) rfl rfl (tw W_828) kv0 eb11 dX12_divide_155 ?_
      refine j_iload E dX12_divide_158 3 rfl ?_
      obtain ⟨o12, h⟩ := h
      refine j_lald E kb11 (by rw [lb11]; exact o12) dX12_divide_160 ?_
      refine j_aload_n E dX12_divide_161 0 rfl ?_
      obtain ⟨b13, eb13, kb13, lb13⟩ := sh_f hZ kv0 (j := 36) (k := 15) (m := 8) rfl
      have h := h b13 eb13
      refine j_getr E 12 36 rfl rfl (by decide) (by decide) (iw iT_12) rfl rfl (tw W_828) kv0 eb13 dX12_divide_162 ?_
      refine j_iload E dX12_divide_165 2 rfl ?_
      obtain ⟨o14, h⟩ := h
      refine j_lald E kb13 (by rw [lb13]; exact o14) dX12_divide_167 ?_
      refine j_lcmp E dX12_divide_168 ?_
      refine j_if_le E 176 dX12_divide_169 (by decide) (fun c15 => ?_) (fun c15 => ?_)
      · have h := h.1 c15
        refine j_sub [0, 1, 2, 3] rfl ?_
        exact m_X12_divide_b176 E hZ K136 hK136 K147 hK147 v0 v5 v6 v7 I L kv0 h
      · have h := h.2 c15
        refine j_iload E dX12_divide_172 3 rfl ?_
        refine j_istore E 6 [(6, .int v7), (0, .ref v0), (5, .int v5), (7, .int v7)] dX12_divide_174 (by decide) rfl ?_
        refine j_sub [1, 2, 0, 3] rfl ?_
        exact m_X12_divide_b176 E hZ K136 hK136 K147 hK147 v0 v5 v7 v7 I L kv0 h
set_option maxRecDepth 100000 in
def f_X12_divide_L136  (Z : jZ) (Q : jI → jL → Prop) : Nat → Nat → Int32 → jI → jL → Prop
  | 0 => fun _ _ _ _ => False
  | n + 1 => fun v0 v5 I L => ((v5 ≤ 0 → Q I L) ∧ (¬ (v5 ≤ 0) → (∃ m147 : Nat, f_X12_divide_L147 (f_X12_divide_L136 Z Q n) Z Q m147 v0 v5 (0 : Int32) (1 : Int32) I L)))
set_option maxHeartbeats 4000000 in
set_option maxRecDepth 100000 in
theorem m_X12_divide_L136 {G : jG} {Z : jZ} {Q : jI → jL → Prop} (E : jE G cX12_divide RX12 w_X12_divide 10 none { frames := 0, cells := 0, slots := 0, locals := 0 } (rtV Z Q)) (hZ : SH Z)  : ∀ (n : Nat) (v0 : Nat) (v5 : Int32) (I : jI) (L : jL), jk Z v0 12 → f_X12_divide_L136  Z Q n v0 v5 I L → jJ G 10 136 [(0, .ref v0), (5, .int v5)] [] Z I L 0 0 := by
  intro n
  induction n with
  | zero => intro v0 v5 I L _ h; exact h.elim
  | succ n ih =>
    intro v0 v5 I L kv0 h
    have h : ((v5 ≤ 0 → Q I L) ∧ (¬ (v5 ≤ 0) → (∃ m147 : Nat, f_X12_divide_L147 (f_X12_divide_L136 Z Q n) Z Q m147 v0 v5 (0 : Int32) (1 : Int32) I L))) := h
    obtain ⟨K136, eK136⟩ : ∃ K : Nat → Int32 → jI → jL → Prop, K = f_X12_divide_L136  Z Q n := ⟨_, rfl⟩
    have hK136 := ih
    clear eK136 K136
    generalize f_X12_divide_L136  Z Q n = K136 at hK136 h
    refine j_iload E dX12_divide_136 1 rfl ?_
    refine j_if_le E 209 dX12_divide_138 (by decide) (fun c16 => ?_) (fun c16 => ?_)
    · have h := h.1 c16
      exact j_return E ⟨rfl, rfl, h⟩ (Nat.zero_le _) (Nat.zero_le _) dX12_divide_209
    · have h := h.2 c16
      refine j_iconst E (v := 0) dX12_divide_141 (by decide) ?_
      refine j_istore E 6 [(6, .int (0 : Int32)), (0, .ref v0), (5, .int v5)] dX12_divide_142 (by decide) rfl ?_
      refine j_iconst E (v := 1) dX12_divide_144 (by decide) ?_
      refine j_istore E 7 [(7, .int (1 : Int32)), (6, .int (0 : Int32)), (0, .ref v0), (5, .int v5)] dX12_divide_145 (by decide) rfl ?_
      obtain ⟨n17, h⟩ := h
      refine j_sub [2, 3, 1, 0] rfl ?_
      exact m_X12_divide_L147 E hZ K136 hK136 n17 v0 v5 (0 : Int32) (1 : Int32) I L kv0 h
set_option maxRecDepth 100000 in
def f_X12_divide_b80 (K27 : Nat → Int32 → Int32 → Int64 → Int32 → Int32 → jI → jL → Prop) (K40 : Nat → Int32 → Int32 → Int64 → Int32 → Int32 → Int64 → Int32 → jI → jL → Prop) (Z : jZ) (Q : jI → jL → Prop) (v0 : Nat) (v1 : Int32) (v2 : Int32) (v3 : Int64) (v5 : Int32) (v6 : Int32) (v9 : Int32) (s0 : Int64) (s1 : Int64) (I : jI) (L : jL) : Prop := (∀ x18 : Int64, x18 = (s0 + s1) → (∀ x19 : Int32, x19 = v9 + 1 → K40 v0 v1 v2 v3 v5 v6 x18 x19 I L))
set_option maxHeartbeats 4000000 in
set_option maxRecDepth 100000 in
theorem m_X12_divide_b80 {G : jG} {Z : jZ} {Q : jI → jL → Prop} (E : jE G cX12_divide RX12 w_X12_divide 10 none { frames := 0, cells := 0, slots := 0, locals := 0 } (rtV Z Q)) (hZ : SH Z) (K27 : Nat → Int32 → Int32 → Int64 → Int32 → Int32 → jI → jL → Prop) (hK27 : ∀ (v0 : Nat) (v1 : Int32) (v2 : Int32) (v3 : Int64) (v5 : Int32) (v6 : Int32) (I : jI) (L : jL), jk Z v0 12 → K27 v0 v1 v2 v3 v5 v6 I L → jJ G 10 27 [(0, .ref v0), (1, .int v1), (2, .int v2), (3, .long v3), (5, .int v5), (6, .int v6)] [] Z I L 0 0) (K40 : Nat → Int32 → Int32 → Int64 → Int32 → Int32 → Int64 → Int32 → jI → jL → Prop) (hK40 : ∀ (v0 : Nat) (v1 : Int32) (v2 : Int32) (v3 : Int64) (v5 : Int32) (v6 : Int32) (v7 : Int64) (v9 : Int32) (I : jI) (L : jL), jk Z v0 12 → K40 v0 v1 v2 v3 v5 v6 v7 v9 I L → jJ G 10 40 [(0, .ref v0), (1, .int v1), (2, .int v2), (3, .long v3), (5, .int v5), (6, .int v6), (7, .long v7), (9, .int v9)] [] Z I L 0 0) (v0 : Nat) (v1 : Int32) (v2 : Int32) (v3 : Int64) (v5 : Int32) (v6 : Int32) (v9 : Int32) (s0 : Int64) (s1 : Int64) (I : jI) (L : jL) (kv0 : jk Z v0 12) (h : f_X12_divide_b80 K27 K40 Z Q v0 v1 v2 v3 v5 v6 v9 s0 s1 I L) : jJ G 10 80 [(0, .ref v0), (1, .int v1), (2, .int v2), (3, .long v3), (5, .int v5), (6, .int v6), (9, .int v9)] [.long s1, .long s0] Z I L 0 0 := by
  refine j_ladd E dX12_divide_80 ?_
  refine j_topl (fun x18 ex18 => ?_)
  have h := h x18 ex18
  refine j_lstore E 7 [(7, .long x18), (0, .ref v0), (1, .int v1), (2, .int v2), (3, .long v3), (5, .int v5), (6, .int v6), (9, .int v9)] dX12_divide_81 (by decide) rfl ?_
  obtain ⟨x19, ex19⟩ : ∃ y : Int32, y = v9 + 1 := ⟨_, rfl⟩
  have h := h x19 ex19
  refine j_iinc E x19 [(9, .int x19), (7, .long x18), (0, .ref v0), (1, .int v1), (2, .int v2), (3, .long v3), (5, .int v5), (6, .int v6)] dX12_divide_83 7 rfl (by rw [ex19]; rfl) (by decide) rfl ?_
  refine j_goto E 40 dX12_divide_86 (by decide) ?_
  refine j_sub [2, 3, 4, 5, 6, 7, 1, 0] rfl ?_
  exact hK40 v0 v1 v2 v3 v5 v6 x18 x19 I L kv0 h
set_option maxRecDepth 100000 in
def f_X12_divide_b62 (K27 : Nat → Int32 → Int32 → Int64 → Int32 → Int32 → jI → jL → Prop) (K40 : Nat → Int32 → Int32 → Int64 → Int32 → Int32 → Int64 → Int32 → jI → jL → Prop) (Z : jZ) (Q : jI → jL → Prop) (v0 : Nat) (v1 : Int32) (v2 : Int32) (v3 : Int64) (v5 : Int32) (v6 : Int32) (v9 : Int32) (s0 : Int64) (I : jI) (L : jL) : Prop := (∀ b20 : Nat, jr Z v0 5 = some b20 → (vp_in (((8 : Int32) * v9) + v6) 192 ∧ f_X12_divide_b80 K27 K40 Z Q v0 v1 v2 v3 v5 v6 v9 s0 ((I b20 (((8 : Int32) * v9) + v6).toNatClampNeg).toInt64) I L))
set_option maxHeartbeats 4000000 in
set_option maxRecDepth 100000 in
theorem m_X12_divide_b62 {G : jG} {Z : jZ} {Q : jI → jL → Prop} (E : jE G cX12_divide RX12 w_X12_divide 10 none { frames := 0, cells := 0, slots := 0, locals := 0 } (rtV Z Q)) (hZ : SH Z) (K27 : Nat → Int32 → Int32 → Int64 → Int32 → Int32 → jI → jL → Prop) (hK27 : ∀ (v0 : Nat) (v1 : Int32) (v2 : Int32) (v3 : Int64) (v5 : Int32) (v6 : Int32) (I : jI) (L : jL), jk Z v0 12 → K27 v0 v1 v2 v3 v5 v6 I L → jJ G 10 27 [(0, .ref v0), (1, .int v1), (2, .int v2), (3, .long v3), (5, .int v5), (6, .int v6)] [] Z I L 0 0) (K40 : Nat → Int32 → Int32 → Int64 → Int32 → Int32 → Int64 → Int32 → jI → jL → Prop) (hK40 : ∀ (v0 : Nat) (v1 : Int32) (v2 : Int32) (v3 : Int64) (v5 : Int32) (v6 : Int32) (v7 : Int64) (v9 : Int32) (I : jI) (L : jL), jk Z v0 12 → K40 v0 v1 v2 v3 v5 v6 v7 v9 I L → jJ G 10 40 [(0, .ref v0), (1, .int v1), (2, .int v2), (3, .long v3), (5, .int v5), (6, .int v6), (7, .long v7), (9, .int v9)] [] Z I L 0 0) (v0 : Nat) (v1 : Int32) (v2 : Int32) (v3 : Int64) (v5 : Int32) (v6 : Int32) (v9 : Int32) (s0 : Int64) (I : jI) (L : jL) (kv0 : jk Z v0 12) (h : f_X12_divide_b62 K27 K40 Z Q v0 v1 v2 v3 v5 v6 v9 s0 I L) : jJ G 10 62 [(0, .ref v0), (1, .int v1), (2, .int v2), (3, .long v3), (5, .int v5), (6, .int v6), (9, .int v9)] [.long s0] Z I L 0 0 := by
  refine j_aload_n E dX12_divide_62 0 rfl ?_
  obtain ⟨b20, eb20, kb20, lb20⟩ := sh_f hZ kv0 (j := 5) (k := 14) (m := 192) rfl
  have h := h b20 eb20
  refine j_getr E 12 5 rfl rfl (by decide) (by decide) (iw iT_12) rfl rfl (tw W_699) kv0 eb20 dX12_divide_63 ?_
  refine j_bipush E (v := 8) dX12_divide_66 (by decide) ?_
  refine j_iload E dX12_divide_68 6 rfl ?_
  refine j_imul E dX12_divide_70 ?_
  refine j_iload E dX12_divide_71 5 rfl ?_
  refine j_iadd E dX12_divide_73 ?_
  obtain ⟨o21, h⟩ := h
  refine j_iald E kb20 (by rw [lb20]; exact o21) dX12_divide_74 ?_
  refine j_i2l E dX12_divide_75 ?_
  refine j_goto E 80 dX12_divide_76 (by decide) ?_
  refine j_sub [0, 1, 2, 3, 4, 5, 6] rfl ?_
  exact m_X12_divide_b80 E hZ K27 hK27 K40 hK40 v0 v1 v2 v3 v5 v6 v9 s0 ((I b20 (((8 : Int32) * v9) + v6).toNatClampNeg).toInt64) I L kv0 h
set_option maxRecDepth 100000 in
def f_X12_divide_L40 (K27 : Nat → Int32 → Int32 → Int64 → Int32 → Int32 → jI → jL → Prop) (Z : jZ) (Q : jI → jL → Prop) : Nat → Nat → Int32 → Int32 → Int64 → Int32 → Int32 → Int64 → Int32 → jI → jL → Prop
  | 0 => fun _ _ _ _ _ _ _ _ _ _ => False
  | n + 1 => fun v0 v1 v2 v3 v5 v6 v7 v9 I L => (((I v0 0) ≤ v9 → (∀ b23 : Nat, jr Z v0 35 = some b23 → (¬ v3 = 0 ∧ (vp_in v6 8 ∧ (∀ I26 : jI, I26 = jpI I b23 v6.toNatClampNeg ((((v1.toInt64) * v7) / v3).toInt32) → (∀ b27 : Nat, jr Z v0 36 = some b27 → (¬ v3 = 0 ∧ (vp_in v6 8 ∧ (∀ L30 : jL, L30 = jpL L b27 v6.toNatClampNeg (((v1.toInt64) * v7) - ((v1.toInt64) * v7) / v3 * v3) → (∀ b31 : Nat, jr Z v0 35 = some b31 → (vp_in v6 8 ∧ (∀ x33 : Int32, x33 = (v5 - (I26 b31 v6.toNatClampNeg)) → (∀ x34 : Int32, x34 = v6 + 1 → K27 v0 v1 v2 v3 x33 x34 I26 L30))))))))))))) ∧ (¬ ((I v0 0) ≤ v9) → ((v2 = (-1 : Int32) → f_X12_divide_b62 K27 (f_X12_divide_L40 K27 Z Q n) Z Q v0 v1 v2 v3 v5 v6 v9 v7 I L) ∧ (¬ (v2 = (-1 : Int32)) → ((¬ v2 = v9 → f_X12_divide_b80 K27 (f_X12_divide_L40 K27 Z Q n) Z Q v0 v1 v2 v3 v5 v6 v9 v7 (0 : Int64) I L) ∧ (v2 = v9 → f_X12_divide_b62 K27 (f_X12_divide_L40 K27 Z Q n) Z Q v0 v1 v2 v3 v5 v6 v9 v7 I L))))))
set_option maxHeartbeats 4000000 in
set_option maxRecDepth 100000 in
theorem m_X12_divide_L40 {G : jG} {Z : jZ} {Q : jI → jL → Prop} (E : jE G cX12_divide RX12 w_X12_divide 10 none { frames := 0, cells := 0, slots := 0, locals := 0 } (rtV Z Q)) (hZ : SH Z) (K27 : Nat → Int32 → Int32 → Int64 → Int32 → Int32 → jI → jL → Prop) (hK27 : ∀ (v0 : Nat) (v1 : Int32) (v2 : Int32) (v3 : Int64) (v5 : Int32) (v6 : Int32) (I : jI) (L : jL), jk Z v0 12 → K27 v0 v1 v2 v3 v5 v6 I L → jJ G 10 27 [(0, .ref v0), (1, .int v1), (2, .int v2), (3, .long v3), (5, .int v5), (6, .int v6)] [] Z I L 0 0) : ∀ (n : Nat) (v0 : Nat) (v1 : Int32) (v2 : Int32) (v3 : Int64) (v5 : Int32) (v6 : Int32) (v7 : Int64) (v9 : Int32) (I : jI) (L : jL), jk Z v0 12 → f_X12_divide_L40 K27 Z Q n v0 v1 v2 v3 v5 v6 v7 v9 I L → jJ G 10 40 [(0, .ref v0), (1, .int v1), (2, .int v2), (3, .long v3), (5, .int v5), (6, .int v6), (7, .long v7), (9, .int v9)] [] Z I L 0 0 := by
  intro n
  induction n with
  | zero => intro v0 v1 v2 v3 v5 v6 v7 v9 I L _ h; exact h.elim
  | succ n ih =>
    intro v0 v1 v2 v3 v5 v6 v7 v9 I L kv0 h
    have h : (((I v0 0) ≤ v9 → (∀ b23 : Nat, jr Z v0 35 = some b23 → (¬ v3 = 0 ∧ (vp_in v6 8 ∧ (∀ I26 : jI, I26 = jpI I b23 v6.toNatClampNeg ((((v1.toInt64) * v7) / v3).toInt32) → (∀ b27 : Nat, jr Z v0 36 = some b27 → (¬ v3 = 0 ∧ (vp_in v6 8 ∧ (∀ L30 : jL, L30 = jpL L b27 v6.toNatClampNeg (((v1.toInt64) * v7) - ((v1.toInt64) * v7) / v3 * v3) → (∀ b31 : Nat, jr Z v0 35 = some b31 → (vp_in v6 8 ∧ (∀ x33 : Int32, x33 = (v5 - (I26 b31 v6.toNatClampNeg)) → (∀ x34 : Int32, x34 = v6 + 1 → K27 v0 v1 v2 v3 x33 x34 I26 L30))))))))))))) ∧ (¬ ((I v0 0) ≤ v9) → ((v2 = (-1 : Int32) → f_X12_divide_b62 K27 (f_X12_divide_L40 K27 Z Q n) Z Q v0 v1 v2 v3 v5 v6 v9 v7 I L) ∧ (¬ (v2 = (-1 : Int32)) → ((¬ v2 = v9 → f_X12_divide_b80 K27 (f_X12_divide_L40 K27 Z Q n) Z Q v0 v1 v2 v3 v5 v6 v9 v7 (0 : Int64) I L) ∧ (v2 = v9 → f_X12_divide_b62 K27 (f_X12_divide_L40 K27 Z Q n) Z Q v0 v1 v2 v3 v5 v6 v9 v7 I L)))))) := h
    obtain ⟨K40, eK40⟩ : ∃ K : Nat → Int32 → Int32 → Int64 → Int32 → Int32 → Int64 → Int32 → jI → jL → Prop, K = f_X12_divide_L40 K27 Z Q n := ⟨_, rfl⟩
    have hK40 := ih
    clear eK40 K40
    generalize f_X12_divide_L40 K27 Z Q n = K40 at hK40 h
    refine j_iload E dX12_divide_40 7 rfl ?_
    refine j_aload_n E dX12_divide_42 0 rfl ?_
    refine j_geti E 12 0 rfl rfl (by decide) (by decide) (iw iT_12) rfl rfl (tw W_693) kv0 dX12_divide_43 ?_
    refine j_icmp_ge E 89 dX12_divide_46 (by decide) (fun c22 => ?_) (fun c22 => ?_)
    · have h := h.1 c22
      refine j_aload_n E dX12_divide_89 0 rfl ?_
      obtain ⟨b23, eb23, kb23, lb23⟩ := sh_f hZ kv0 (j := 35) (k := 14) (m := 8) rfl
      have h := h b23 eb23
      refine j_getr E 12 35 rfl rfl (by decide) (by decide) (iw iT_12) rfl rfl (tw W_827) kv0 eb23 dX12_divide_90 ?_
      refine j_iload E dX12_divide_93 5 rfl ?_
      refine j_iload_n E dX12_divide_95 1 rfl ?_
      refine j_i2l E dX12_divide_96 ?_
      refine j_lload E dX12_divide_97 6 rfl ?_
      refine j_lmul E dX12_divide_99 ?_
      refine j_lload_n E dX12_divide_100 3 rfl ?_
      obtain ⟨o24, h⟩ := h
      refine j_ldiv E dX12_divide_101 o24 ?_
      refine j_l2i E dX12_divide_102 ?_
      obtain ⟨o25, h⟩ := h
      refine j_iast E kb23 (by rw [lb23]; exact o25) dX12_divide_103 ?_
      refine j_nmI (fun I26 eI26 => ?_)
      have h := h I26 eI26
      refine j_aload_n E dX12_divide_104 0 rfl ?_
      obtain ⟨b27, eb27, kb27, lb27⟩ := sh_f hZ kv0 (j := 36) (k := 15) (m := 8) rfl
      have h := h b27 eb27
      refine j_getr E 12 36 rfl rfl (by decide) (by decide) (iw iT_12) rfl rfl (tw W_828) kv0 eb27 dX12_divide_105 ?_
      refine j_iload E dX12_divide_108 5 rfl ?_
      refine j_iload_n E dX12_divide_110 1 rfl ?_
      refine j_i2l E dX12_divide_111 ?_
      refine j_lload E dX12_divide_112 6 rfl ?_
      refine j_lmul E dX12_divide_114 ?_
      refine j_lload_n E dX12_divide_115 3 rfl ?_
      obtain ⟨o28, h⟩ := h
      refine j_lrem E dX12_divide_116 o28 ?_
      obtain ⟨o29, h⟩ := h
      refine j_last E kb27 (by rw [lb27]; exact o29) dX12_divide_117 ?_
      refine j_nmL (fun L30 eL30 => ?_)
      have h := h L30 eL30
      refine j_iload E dX12_divide_118 4 rfl ?_
      refine j_aload_n E dX12_divide_120 0 rfl ?_
      obtain ⟨b31, eb31, kb31, lb31⟩ := sh_f hZ kv0 (j := 35) (k := 14) (m := 8) rfl
      have h := h b31 eb31
      refine j_getr E 12 35 rfl rfl (by decide) (by decide) (iw iT_12) rfl rfl (tw W_827) kv0 eb31 dX12_divide_121 ?_
      refine j_iload E dX12_divide_124 5 rfl ?_
      obtain ⟨o32, h⟩ := h
      refine j_iald E kb31 (by rw [lb31]; exact o32) dX12_divide_126 ?_
      refine j_isub E dX12_divide_127 ?_
      refine j_topi (fun x33 ex33 => ?_)
      have h := h x33 ex33
      refine j_istore E 5 [(5, .int x33), (0, .ref v0), (1, .int v1), (2, .int v2), (3, .long v3), (6, .int v6), (7, .long v7), (9, .int v9)] dX12_divide_128 (by decide) rfl ?_
      obtain ⟨x34, ex34⟩ : ∃ y : Int32, y = v6 + 1 := ⟨_, rfl⟩
      have h := h x34 ex34
      refine j_iinc E x34 [(6, .int x34), (5, .int x33), (0, .ref v0), (1, .int v1), (2, .int v2), (3, .long v3), (7, .long v7), (9, .int v9)] dX12_divide_130 5 rfl (by rw [ex34]; rfl) (by decide) rfl ?_
      refine j_goto E 27 dX12_divide_133 (by decide) ?_
      refine j_sub [2, 3, 4, 5, 1, 0] rfl ?_
      exact hK27 v0 v1 v2 v3 x33 x34 I26 L30 kv0 h
    · have h := h.2 c22
      refine j_lload E dX12_divide_49 6 rfl ?_
      refine j_iload_n E dX12_divide_51 2 rfl ?_
      refine j_iconst E (v := -1) dX12_divide_52 (by decide) ?_
      refine j_icmp_eq E 62 dX12_divide_53 (by decide) (fun c35 => ?_) (fun c35 => ?_)
      · have h := h.1 c35
        refine j_sub [0, 1, 2, 3, 4, 5, 7] rfl ?_
        exact m_X12_divide_b62 E hZ K27 hK27 K40 hK40 v0 v1 v2 v3 v5 v6 v9 v7 I L kv0 h
      · have h := h.2 c35
        refine j_iload_n E dX12_divide_56 2 rfl ?_
        refine j_iload E dX12_divide_57 7 rfl ?_
        refine j_icmp_ne E 79 dX12_divide_59 (by decide) (fun c36 => ?_) (fun c36 => ?_)
        · have h := h.1 c36
          refine j_lconst E (v := 0) dX12_divide_79 (by decide) ?_
          refine j_sub [0, 1, 2, 3, 4, 5, 7] rfl ?_
          exact m_X12_divide_b80 E hZ K27 hK27 K40 hK40 v0 v1 v2 v3 v5 v6 v9 v7 (0 : Int64) I L kv0 h
        · have h := h.2 c36
          refine j_sub [0, 1, 2, 3, 4, 5, 7] rfl ?_
          exact m_X12_divide_b62 E hZ K27 hK27 K40 hK40 v0 v1 v2 v3 v5 v6 v9 v7 I L kv0 h
set_option maxRecDepth 100000 in
def f_X12_divide_L27  (Z : jZ) (Q : jI → jL → Prop) : Nat → Nat → Int32 → Int32 → Int64 → Int32 → Int32 → jI → jL → Prop
  | 0 => fun _ _ _ _ _ _ _ _ => False
  | n + 1 => fun v0 v1 v2 v3 v5 v6 I L => (((8 : Int32) ≤ v6 → (∃ m136 : Nat, f_X12_divide_L136  Z Q m136 v0 v5 I L)) ∧ (¬ ((8 : Int32) ≤ v6) → (∃ m40 : Nat, f_X12_divide_L40 (f_X12_divide_L27 Z Q n) Z Q m40 v0 v1 v2 v3 v5 v6 (0 : Int64) (0 : Int32) I L)))
set_option maxHeartbeats 4000000 in
set_option maxRecDepth 100000 in
theorem m_X12_divide_L27 {G : jG} {Z : jZ} {Q : jI → jL → Prop} (E : jE G cX12_divide RX12 w_X12_divide 10 none { frames := 0, cells := 0, slots := 0, locals := 0 } (rtV Z Q)) (hZ : SH Z)  : ∀ (n : Nat) (v0 : Nat) (v1 : Int32) (v2 : Int32) (v3 : Int64) (v5 : Int32) (v6 : Int32) (I : jI) (L : jL), jk Z v0 12 → f_X12_divide_L27  Z Q n v0 v1 v2 v3 v5 v6 I L → jJ G 10 27 [(0, .ref v0), (1, .int v1), (2, .int v2), (3, .long v3), (5, .int v5), (6, .int v6)] [] Z I L 0 0 := by
  intro n
  induction n with
  | zero => intro v0 v1 v2 v3 v5 v6 I L _ h; exact h.elim
  | succ n ih =>
    intro v0 v1 v2 v3 v5 v6 I L kv0 h
    have h : (((8 : Int32) ≤ v6 → (∃ m136 : Nat, f_X12_divide_L136  Z Q m136 v0 v5 I L)) ∧ (¬ ((8 : Int32) ≤ v6) → (∃ m40 : Nat, f_X12_divide_L40 (f_X12_divide_L27 Z Q n) Z Q m40 v0 v1 v2 v3 v5 v6 (0 : Int64) (0 : Int32) I L))) := h
    obtain ⟨K27, eK27⟩ : ∃ K : Nat → Int32 → Int32 → Int64 → Int32 → Int32 → jI → jL → Prop, K = f_X12_divide_L27  Z Q n := ⟨_, rfl⟩
    have hK27 := ih
    clear eK27 K27
    generalize f_X12_divide_L27  Z Q n = K27 at hK27 h
    refine j_iload E dX12_divide_27 5 rfl ?_
    refine j_bipush E (v := 8) dX12_divide_29 (by decide) ?_
    refine j_icmp_ge E 136 dX12_divide_31 (by decide) (fun c37 => ?_) (fun c37 => ?_)
    · have h := h.1 c37
      obtain ⟨n38, h⟩ := h
      refine j_sub [0, 4] rfl ?_
      exact m_X12_divide_L136 E hZ  n38 v0 v5 I L kv0 h
    · have h := h.2 c37
      refine j_lconst E (v := 0) dX12_divide_34 (by decide) ?_
      refine j_lstore E 7 [(7, .long (0 : Int64)), (0, .ref v0), (1, .int v1), (2, .int v2), (3, .long v3), (5, .int v5), (6, .int v6)] dX12_divide_35 (by decide) rfl ?_
      refine j_iconst E (v := 0) dX12_divide_37 (by decide) ?_
      refine j_istore E 9 [(9, .int (0 : Int32)), (7, .long (0 : Int64)), (0, .ref v0), (1, .int v1), (2, .int v2), (3, .long v3), (5, .int v5), (6, .int v6)] dX12_divide_38 (by decide) rfl ?_
      obtain ⟨n39, h⟩ := h
      refine j_sub [2, 3, 4, 5, 6, 7, 1, 0] rfl ?_
      exact m_X12_divide_L40 E hZ K27 hK27 n39 v0 v1 v2 v3 v5 v6 (0 : Int64) (0 : Int32) I L kv0 h
set_option maxRecDepth 100000 in
def f_X12_divide_b20  (Z : jZ) (Q : jI → jL → Prop) (v0 : Nat) (v1 : Int32) (v2 : Int32) (s0 : Int64) (I : jI) (L : jL) : Prop := (∃ m27 : Nat, f_X12_divide_L27  Z Q m27 v0 v1 v2 s0 v1 (0 : Int32) I L)
set_option maxHeartbeats 4000000 in
set_option maxRecDepth 100000 in
theorem m_X12_divide_b20 {G : jG} {Z : jZ} {Q : jI → jL → Prop} (E : jE G cX12_divide RX12 w_X12_divide 10 none { frames := 0, cells := 0, slots := 0, locals := 0 } (rtV Z Q)) (hZ : SH Z)  (v0 : Nat) (v1 : Int32) (v2 : Int32) (s0 : Int64) (I : jI) (L : jL) (kv0 : jk Z v0 12) (h : f_X12_divide_b20  Z Q v0 v1 v2 s0 I L) : jJ G 10 20 [(0, .ref v0), (1, .int v1), (2, .int v2)] [.long s0] Z I L 0 0 := by
  refine j_lstore_n E 3 [(3, .long s0), (0, .ref v0), (1, .int v1), (2, .int v2)] dX12_divide_20 rfl (by decide) rfl ?_
  refine j_iload_n E dX12_divide_21 2 rfl ?_
  refine j_istore E 5 [(5, .int v1), (3, .long s0), (0, .ref v0), (1, .int v1), (2, .int v2)] dX12_divide_22 (by decide) rfl ?_
  refine j_iconst E (v := 0) dX12_divide_24 (by decide) ?_
  refine j_istore E 6 [(6, .int (0 : Int32)), (5, .int v1), (3, .long s0), (0, .ref v0), (1, .int v1), (2, .int v2)] dX12_divide_25 (by decide) rfl ?_
  obtain ⟨n40, h⟩ := h
  refine j_sub [3, 4, 5, 2, 1, 0] rfl ?_
  exact m_X12_divide_L27 E hZ  n40 v0 v1 v2 s0 v1 (0 : Int32) I L kv0 h
set_option maxRecDepth 100000 in
def f_X12_divide (v0 : Nat) (v1 : Int32) (v2 : Int32) (Z : jZ) (I : jI) (L : jL) (Q : jI → jL → Prop) : Prop := ((¬ v2 = (-1 : Int32) → f_X12_divide_b20  Z Q v0 v1 v2 (720 : Int64) I L) ∧ (v2 = (-1 : Int32) → f_X12_divide_b20  Z Q v0 v1 v2 ((720 : Int64) * ((I v0 0).toInt64)) I L))
set_option maxHeartbeats 4000000 in
set_option maxRecDepth 100000 in
theorem c_X12_divide (l : Launch) (D : va_G) (cy : jC) (v0 : Nat) (v1 : Int32) (v2 : Int32) (Z : jZ) (I : jI) (L : jL) (Q : jI → jL → Prop) (hZ : SH Z) (kv0 : jk Z v0 12) (h : f_X12_divide v0 v1 v2 Z I L Q) : jCt l yX12_divide w_X12_divide { frames := 0, cells := 0, slots := 0, locals := 0 } D cy [.ref v0, .int v1, .int v2] Z I L (rtV Z Q) := by
  refine jCt_of (cc := cX12_divide) (maxL := 10) (ret := none) (by decide +kernel) rfl (Nat.le_of_ble_eq_true rfl) ?_
  intro G eD eY eL E
  subst eD; subst eY; subst eL
  have E : jE G cX12_divide RX12 w_X12_divide 10 none { frames := 0, cells := 0, slots := 0, locals := 0 } (rtV Z Q) := E
  show jJ G 10 0 [(0, .ref v0), (1, .int v1), (2, .int v2)] [] Z I L 0 0
  refine j_iload_n E dX12_divide_0 2 rfl ?_
  refine j_iconst E (v := -1) dX12_divide_1 (by decide) ?_
  refine j_icmp_ne E 17 dX12_divide_2 (by decide) (fun c41 => ?_) (fun c41 => ?_)
  · have h := h.1 c41
    refine j_ldc2 E (tw W_830) dX12_divide_17 ?_
    refine j_sub [0, 1, 2] rfl ?_
    exact m_X12_divide_b20 E hZ  v0 v1 v2 (720 : Int64) I L kv0 h
  · have h := h.2 c41
    refine j_ldc2 E (tw W_830) dX12_divide_5 ?_
    refine j_aload_n E dX12_divide_8 0 rfl ?_
    refine j_geti E 12 0 rfl rfl (by decide) (by decide) (iw iT_12) rfl rfl (tw W_693) kv0 dX12_divide_9 ?_
    refine j_i2l E dX12_divide_12 ?_
    refine j_lmul E dX12_divide_13 ?_
    refine j_goto E 20 dX12_divide_14 (by decide) ?_
    refine j_sub [0, 1, 2] rfl ?_
    exact m_X12_divide_b20 E hZ  v0 v1 v2 ((720 : Int64) * ((I v0 0).toInt64)) I L kv0 h
set_option maxRecDepth 100000 in
def f_X12_earn_L9  (Z : jZ) (Q : jI → jL → Prop) : Nat → Nat → Int32 → Int32 → jI → jL → Prop
  | 0 => fun _ _ _ _ _ => False
  | n + 1 => fun v0 v3 v4 I L => (((8 : Int32) ≤ v4 → Q I L) ∧ (¬ ((8 : Int32) ≤ v4) → (∀ b2 : Nat, jr Z v0 17 = some b2 → (vp_in v4 8 ∧ (∀ b4 : Nat, jr Z v0 35 = some b4 → (vp_in v4 8 ∧ (vp_in v4 8 ∧ (∀ I7 : jI, I7 = jpI I b2 v4.toNatClampNeg ((I b2 v4.toNatClampNeg) + (v3 * (I b4 v4.toNatClampNeg))) → (∀ x8 : Int32, x8 = v4 + 1 → (f_X12_earn_L9 Z Q n) v0 v3 x8 I7 L)))))))))
set_option maxHeartbeats 4000000 in
set_option maxRecDepth 100000 in
theorem m_X12_earn_L9 {G : jG} {Z : jZ} {Q : jI → jL → Prop} (E : jE G cX12_earn RX12 w_X12_earn 5 none { frames := 1, cells := 0, slots := 0, locals := 29 } (rtV Z Q)) (hZ : SH Z)  : ∀ (n : Nat) (v0 : Nat) (v3 : Int32) (v4 : Int32) (I : jI) (L : jL), jk Z v0 12 → f_X12_earn_L9  Z Q n v0 v3 v4 I L → jJ G 5 9 [(0, .ref v0), (3, .int v3), (4, .int v4)] [] Z I L 0 0 := by
  intro n
  induction n with
  | zero => intro v0 v3 v4 I L _ h; exact h.elim
  | succ n ih =>
    intro v0 v3 v4 I L kv0 h
    have h : (((8 : Int32) ≤ v4 → Q I L) ∧ (¬ ((8 : Int32) ≤ v4) → (∀ b2 : Nat, jr Z v0 17 = some b2 → (vp_in v4 8 ∧ (∀ b4 : Nat, jr Z v0 35 = some b4 → (vp_in v4 8 ∧ (vp_in v4 8 ∧ (∀ I7 : jI, I7 = jpI I b2 v4.toNatClampNeg ((I b2 v4.toNatClampNeg) + (v3 * (I b4 v4.toNatClampNeg))) → (∀ x8 : Int32, x8 = v4 + 1 → (f_X12_earn_L9 Z Q n) v0 v3 x8 I7 L))))))))) := h
    obtain ⟨K9, eK9⟩ : ∃ K : Nat → Int32 → Int32 → jI → jL → Prop, K = f_X12_earn_L9  Z Q n := ⟨_, rfl⟩
    have hK9 := ih
    clear eK9 K9
    generalize f_X12_earn_L9  Z Q n = K9 at hK9 h
    refine j_iload E dX12_earn_9 2 rfl ?_
    refine j_bipush E (v := 8) dX12_earn_11 (by decide) ?_
    refine j_icmp_ge E 41 dX12_earn_13 (by decide) (fun c1 => ?_) (fun c1 => ?_)
    · have h := h.1 c1
      exact j_return E ⟨rfl, rfl, h⟩ (Nat.zero_le _) (Nat.zero_le _) dX12_earn_41
    · have h := h.2 c1
      refine j_aload_n E dX12_earn_16 0 rfl ?_
      obtain ⟨b2, eb2, kb2, lb2⟩ := sh_f hZ kv0 (j := 17) (k := 14) (m := 8) rfl
      have h := h b2 eb2
      refine j_getr E 12 17 rfl rfl (by decide) (by decide) (iw iT_12) rfl rfl (tw W_737) kv0 eb2 dX12_earn_17 ?_
      refine j_iload E dX12_earn_20 2 rfl ?_
      refine j_dup2_11 E dX12_earn_22 rfl rfl ?_
      obtain ⟨o3, h⟩ := h
      refine j_iald E kb2 (by rw [lb2]; exact o3) dX12_earn_23 ?_
      refine j_iload_n E dX12_earn_24 1 rfl ?_
      refine j_aload_n E dX12_earn_25 0 rfl ?_
      obtain ⟨b4, eb4, kb4, lb4⟩ := sh_f hZ kv0 (j := 35) (k := 14) (m := 8) rfl
      have h := h b4 eb4
      refine j_getr E 12 35 rfl rfl (by decide) (by decide) (iw iT_12) rfl rfl (tw W_827) kv0 eb4 dX12_earn_26 ?_
      refine j_iload E dX12_earn_29 2 rfl ?_
      obtain ⟨o5, h⟩ := h
      refine j_iald E kb4 (by rw [lb4]; exact o5) dX12_earn_31 ?_
      refine j_imul E dX12_earn_32 ?_
      refine j_iadd E dX12_earn_33 ?_
      obtain ⟨o6, h⟩ := h
      refine j_iast E kb2 (by rw [lb2]; exact o6) dX12_earn_34 ?_
      refine j_nmI (fun I7 eI7 => ?_)
      have h := h I7 eI7
      obtain ⟨x8, ex8⟩ : ∃ y : Int32, y = v4 + 1 := ⟨_, rfl⟩
      have h := h x8 ex8
      refine j_iinc E x8 [(4, .int x8), (0, .ref v0), (3, .int v3)] dX12_earn_35 2 rfl (by rw [ex8]; rfl) (by decide) rfl ?_
      refine j_goto E 9 dX12_earn_38 (by decide) ?_
      refine j_sub [1, 2, 0] rfl ?_
      exact hK9 v0 v3 x8 I7 L kv0 h
set_option maxRecDepth 100000 in
def f_X12_earn (v0 : Nat) (v1 : Int32) (v2 : Int32) (v3 : Int32) (Z : jZ) (I : jI) (L : jL) (Q : jI → jL → Prop) : Prop := (f_X12_divide v0 v2 v1 Z I L (fun I11 L12 => (∃ m9 : Nat, f_X12_earn_L9  Z Q m9 v0 v3 (0 : Int32) I11 L12)))
set_option maxHeartbeats 4000000 in
set_option maxRecDepth 100000 in
theorem c_X12_earn (l : Launch) (D : va_G) (cy : jC) (v0 : Nat) (v1 : Int32) (v2 : Int32) (v3 : Int32) (Z : jZ) (I : jI) (L : jL) (Q : jI → jL → Prop) (hZ : SH Z) (kv0 : jk Z v0 12) (h : f_X12_earn v0 v1 v2 v3 Z I L Q) : jCt l yX12_earn w_X12_earn { frames := 1, cells := 0, slots := 0, locals := 29 } D cy [.ref v0, .int v1, .int v2, .int v3] Z I L (rtV Z Q) := by
  refine jCt_of (cc := cX12_earn) (maxL := 5) (ret := none) (by decide +kernel) rfl (Nat.le_of_ble_eq_true rfl) ?_
  intro G eD eY eL E
  subst eD; subst eY; subst eL
  have E : jE G cX12_earn RX12 w_X12_earn 5 none { frames := 1, cells := 0, slots := 0, locals := 29 } (rtV Z Q) := E
  show jJ G 5 0 [(0, .ref v0), (1, .int v1), (2, .int v2), (3, .int v3)] [] Z I L 0 0
  refine j_aload_n E dX12_earn_0 0 rfl ?_
  refine j_iload_n E dX12_earn_1 2 rfl ?_
  refine j_iload_n E dX12_earn_2 1 rfl ?_
  refine j_callV E [.int v2, .int v1] [] (c_X12_divide (gL G) (gD G) (gY G) v0 v2 v1 Z I L _ hZ kv0 h) (gwV W_832 W_833 W_834 W_695 W_831) rfl ⟨rfl, fy_X12_divide⟩ ⟨by decide, by decide⟩ (c := 12) rfl (by decide) kv0 rfl rfl (Nat.le_of_ble_eq_true rfl) ⟨Nat.zero_le _, Nat.zero_le _⟩ dX12_earn_3 (fun v9 Z10 I11 L12 q13 => ?_)
  obtain ⟨rfl, rfl, h⟩ := q13
  show jJ G 5 6 [(0, .ref v0), (1, .int v1), (2, .int v2), (3, .int v3)] [] Z I11 L12 0 0
  refine j_iconst E (v := 0) dX12_earn_6 (by decide) ?_
  refine j_istore E 4 [(4, .int (0 : Int32)), (0, .ref v0), (1, .int v1), (2, .int v2), (3, .int v3)] dX12_earn_7 (by decide) rfl ?_
  obtain ⟨n15, h⟩ := h
  refine j_sub [1, 4, 0] rfl ?_
  exact m_X12_earn_L9 E hZ  n15 v0 v3 (0 : Int32) I11 L12 kv0 h
set_option maxRecDepth 100000 in
def f_X12_tread_b142 (B : Nat × Nat) (K121 : Nat → Int32 → Int32 → Int32 → Int32 → Int32 → Int32 → Int32 → jZ → jI → jL → Prop) (Q : Int32 → jZ → jI → jL → Prop) (v0 : Nat) (v1 : Int32) (v2 : Int32) (v3 : Int32) (v4 : Int32) (v5 : Int32) (v6 : Int32) (v7 : Int32) (s0 : Nat) (s1 : Int32) (s2 : Nat) (s3 : Int32) (Z : jZ) (I : jI) (L : jL) : Prop := (∀ b1 : Nat, jr Z v0 12 = some b1 → (vp_in v1 6 ∧ (f_X12_lawOf B s2 s3 v7 v3 (I b1 v1.toNatClampNeg) v6 Z I L (fun r9 Z4 I5 L6 => (f_X12_earn s0 s1 r9 (1 : Int32) Z4 I5 L6 (fun I14 L15 => (∀ x18 : Int32, x18 = v7 + 1 → K121 v0 v1 v2 v3 v4 v5 v6 x18 Z4 I14 L15)))))))
set_option maxHeartbeats 4000000 in
set_option maxRecDepth 100000 in
theorem m_X12_tread_b142 {G : jG} {B : Nat × Nat} {Z0 : jZ} {Q : Int32 → jZ → jI → jL → Prop} (E : jE G cX12_tread RX12 w_X12_tread 8 (some .int) (jrm B 105 2539 Z0) jRF) (EU : jEU G B Z0 (urtI B Z0 Q)) (K121 : Nat → Int32 → Int32 → Int32 → Int32 → Int32 → Int32 → Int32 → jZ → jI → jL → Prop) (hK121 : ∀ (v0 : Nat) (v1 : Int32) (v2 : Int32) (v3 : Int32) (v4 : Int32) (v5 : Int32) (v6 : Int32) (v7 : Int32) (Z : jZ) (I : jI) (L : jL), SH Z → jext Z0 Z → jle Z0 Z → jin B Z → jk Z v0 12 → K121 v0 v1 v2 v3 v4 v5 v6 v7 Z I L → jJ G 8 121 [(0, .ref v0), (1, .int v1), (2, .int v2), (3, .int v3), (4, .int v4), (5, .int v5), (6, .int v6), (7, .int v7)] [] Z I L (jcz Z - jcz Z0) (jsz Z - jsz Z0)) (v0 : Nat) (v1 : Int32) (v2 : Int32) (v3 : Int32) (v4 : Int32) (v5 : Int32) (v6 : Int32) (v7 : Int32) (s0 : Nat) (s1 : Int32) (s2 : Nat) (s3 : Int32) (Z : jZ) (I : jI) (L : jL) (hZ : SH Z) (hx : jext Z0 Z) (hc : jle Z0 Z) (hb : jin B Z) (kv0 : jk Z v0 12) (ks0 : jk Z s0 12) (ks2 : jk Z s2 12) (h : f_X12_tread_b142 B K121 Q v0 v1 v2 v3 v4 v5 v6 v7 s0 s1 s2 s3 Z I L) : jJ G 8 142 [(0, .ref v0), (1, .int v1), (2, .int v2), (3, .int v3), (4, .int v4), (5, .int v5), (6, .int v6), (7, .int v7)] [.int s3, .ref s2, .int s1, .ref s0] Z I L (jcz Z - jcz Z0) (jsz Z - jsz Z0) := by
  refine j_iload E dX12_tread_142 7 rfl ?_
  refine j_iload_n E dX12_tread_144 3 rfl ?_
  refine j_aload_n E dX12_tread_145 0 rfl ?_
  obtain ⟨b1, eb1, kb1, lb1⟩ := sh_f hZ kv0 (j := 12) (k := 14) (m := 6) rfl
  have h := h b1 eb1
  refine j_getr E 12 12 rfl rfl (by decide) (by decide) (iw iT_12) rfl rfl (tw W_801) kv0 eb1 dX12_tread_146 ?_
  refine j_iload_n E dX12_tread_149 1 rfl ?_
  obtain ⟨o2, h⟩ := h
  refine j_iald E kb1 (by rw [lb1]; exact o2) dX12_tread_150 ?_
  refine j_iload E dX12_tread_151 6 rfl ?_
  refine ju_callV E [.int s3, .int v7, .int v3, .int (I b1 v1.toNatClampNeg), .int v6] [.int s1, .ref s0] (c_X12_lawOf (gL G) (gD G) (gY G) B s2 s3 v7 v3 (I b1 v1.toNatClampNeg) v6 Z I L _ hZ hb ks2 h) (gwV W_808 W_809 W_810 W_695 W_807) rfl ⟨rfl, fy_X12_lawOf⟩ ⟨Nat.le_of_ble_eq_true rfl, Nat.le_of_ble_eq_true rfl⟩ (c := 12) rfl (by decide) ks2 rfl rfl (Nat.le_of_ble_eq_true rfl) (ju_f hc hb) dX12_tread_153 (fun v3 Z4 I5 L6 q7 j8 => ?_)
  refine ju_next hc j8 ?_
  have hc := jle_trans hc j8
  obtain ⟨yZ4, hZ4, hbZ4, r9, rfl, h⟩ := q7
  have hZ := hZ4
  have hx : jext Z0 Z4 := jext_trans hx yZ4
  have hb := hbZ4
  have k10 := (yZ4 _ _ kv0).1
  have k11 := (yZ4 _ _ ks0).1
  show jJ G 8 156 [(0, .ref v0), (1, .int v1), (2, .int v2), (3, .int v3), (4, .int v4), (5, .int v5), (6, .int v6), (7, .int v7)] [.int r9, .int s1, .ref s0] Z4 I5 L6 (jcz Z4 - jcz Z0) (jsz Z4 - jsz Z0)
  refine j_iconst E (v := 1) dX12_tread_156 (by decide) ?_
  refine j_callV E [.int s1, .int r9, .int (1 : Int32)] [] (c_X12_earn (gL G) (gD G) (gY G) s0 s1 r9 (1 : Int32) Z4 I5 L6 _ hZ k11 h) (gwV W_836 W_837 W_838 W_695 W_835) rfl ⟨rfl, fy_X12_earn⟩ ⟨Nat.le_of_ble_eq_true rfl, Nat.le_of_ble_eq_true rfl⟩ (c := 12) rfl (by decide) k11 rfl rfl (Nat.le_of_ble_eq_true rfl) (ju_kn hb) dX12_tread_157 (fun v12 Z13 I14 L15 q16 => ?_)
  obtain ⟨rfl, rfl, h⟩ := q16
  show jJ G 8 160 [(0, .ref v0), (1, .int v1), (2, .int v2), (3, .int v3), (4, .int v4), (5, .int v5), (6, .int v6), (7, .int v7)] [] Z4 I14 L15 (jcz Z4 - jcz Z0) (jsz Z4 - jsz Z0)
  obtain ⟨x18, ex18⟩ : ∃ y : Int32, y = v7 + 1 := ⟨_, rfl⟩
  have h := h x18 ex18
  refine j_iinc E x18 [(7, .int x18), (0, .ref v0), (1, .int v1), (2, .int v2), (3, .int v3), (4, .int v4), (5, .int v5), (6, .int v6)] dX12_tread_160 7 rfl (by rw [ex18]; rfl) (by decide) rfl ?_
  refine j_goto E 121 dX12_tread_163 (by decide) ?_
  refine j_sub [1, 2, 3, 4, 5, 6, 7, 0] rfl ?_
  exact hK121 v0 v1 v2 v3 v4 v5 v6 x18 Z4 I14 L15 hZ hx hc hb k10 h
set_option maxRecDepth 100000 in
def f_X12_tread_L121 (B : Nat × Nat)  (Q : Int32 → jZ → jI → jL → Prop) : Nat → Nat → Int32 → Int32 → Int32 → Int32 → Int32 → Int32 → Int32 → jZ → jI → jL → Prop
  | 0 => fun _ _ _ _ _ _ _ _ _ _ _ => False
  | n + 1 => fun v0 v1 v2 v3 v4 v5 v6 v7 Z I L => ((v2 < v7 → (∀ b20 : Nat, jr Z v0 15 = some b20 → (vp_in v1 6 ∧ (vp_in v1 6 ∧ (∀ I23 : jI, I23 = jpI I b20 v1.toNatClampNeg ((I b20 v1.toNatClampNeg) - v4) → (∀ b24 : Nat, jr Z v0 16 = some b24 → (vp_in v1 6 ∧ (vp_in v1 6 ∧ (∀ I27 : jI, I27 = jpI I23 b24 v1.toNatClampNeg ((I23 b24 v1.toNatClampNeg) - v5) → (∀ b28 : Nat, jr Z v0 14 = some b28 → (vp_in v1 6 ∧ (∀ I30 : jI, I30 = jpI I27 b28 v1.toNatClampNeg v2 → Q v5 Z I30 L)))))))))))) ∧ (¬ (v2 < v7) → ((¬ v7 = v2 → f_X12_tread_b142 B (f_X12_tread_L121 B Q n) Q v0 v1 v2 v3 v4 v5 v6 v7 v0 v7 v0 (1 : Int32) Z I L) ∧ (v7 = v2 → f_X12_tread_b142 B (f_X12_tread_L121 B Q n) Q v0 v1 v2 v3 v4 v5 v6 v7 v0 v7 v0 (0 : Int32) Z I L))))
set_option maxHeartbeats 4000000 in
set_option maxRecDepth 100000 in
theorem m_X12_tread_L121 {G : jG} {Z0 : jZ} {B : Nat × Nat} {Q : Int32 → jZ → jI → jL → Prop} (E : jE G cX12_tread RX12 w_X12_tread 8 (some .int) (jrm B 105 2539 Z0) jRF) (EU : jEU G B Z0 (urtI B Z0 Q))  : ∀ (n : Nat) (v0 : Nat) (v1 : Int32) (v2 : Int32) (v3 : Int32) (v4 : Int32) (v5 : Int32) (v6 : Int32) (v7 : Int32) (Z : jZ) (I : jI) (L : jL), SH Z → jext Z0 Z → jle Z0 Z → jin B Z → jk Z v0 12 → f_X12_tread_L121 B  Q n v0 v1 v2 v3 v4 v5 v6 v7 Z I L → jJ G 8 121 [(0, .ref v0), (1, .int v1), (2, .int v2), (3, .int v3), (4, .int v4), (5, .int v5), (6, .int v6), (7, .int v7)] [] Z I L (jcz Z - jcz Z0) (jsz Z - jsz Z0) := by
  intro n
  induction n with
  | zero => intro v0 v1 v2 v3 v4 v5 v6 v7 Z I L _ _ _ _ _ h; exact h.elim
  | succ n ih =>
    intro v0 v1 v2 v3 v4 v5 v6 v7 Z I L hZ hx hc hb kv0 h
    have h : ((v2 < v7 → (∀ b20 : Nat, jr Z v0 15 = some b20 → (vp_in v1 6 ∧ (vp_in v1 6 ∧ (∀ I23 : jI, I23 = jpI I b20 v1.toNatClampNeg ((I b20 v1.toNatClampNeg) - v4) → (∀ b24 : Nat, jr Z v0 16 = some b24 → (vp_in v1 6 ∧ (vp_in v1 6 ∧ (∀ I27 : jI, I27 = jpI I23 b24 v1.toNatClampNeg ((I23 b24 v1.toNatClampNeg) - v5) → (∀ b28 : Nat, jr Z v0 14 = some b28 → (vp_in v1 6 ∧ (∀ I30 : jI, I30 = jpI I27 b28 v1.toNatClampNeg v2 → Q v5 Z I30 L)))))))))))) ∧ (¬ (v2 < v7) → ((¬ v7 = v2 → f_X12_tread_b142 B (f_X12_tread_L121 B Q n) Q v0 v1 v2 v3 v4 v5 v6 v7 v0 v7 v0 (1 : Int32) Z I L) ∧ (v7 = v2 → f_X12_tread_b142 B (f_X12_tread_L121 B Q n) Q v0 v1 v2 v3 v4 v5 v6 v7 v0 v7 v0 (0 : Int32) Z I L)))) := h
    obtain ⟨K121, eK121⟩ : ∃ K : Nat → Int32 → Int32 → Int32 → Int32 → Int32 → Int32 → Int32 → jZ → jI → jL → Prop, K = f_X12_tread_L121 B  Q n := ⟨_, rfl⟩
    have hK121 := ih
    clear eK121 K121
    generalize f_X12_tread_L121 B  Q n = K121 at hK121 h
    refine j_iload E dX12_tread_121 7 rfl ?_
    refine j_iload_n E dX12_tread_123 2 rfl ?_
    refine j_icmp_gt E 166 dX12_tread_124 (by decide) (fun c19 => ?_) (fun c19 => ?_)
    · have h := h.1 c19
      refine j_aload_n E dX12_tread_166 0 rfl ?_
      obtain ⟨b20, eb20, kb20, lb20⟩ := sh_f hZ kv0 (j := 15) (k := 14) (m := 6) rfl
      have h := h b20 eb20
      refine j_getr E 12 15 rfl rfl (by decide) (by decide) (iw iT_12) rfl rfl (tw W_733) kv0 eb20 dX12_tread_167 ?_
      refine j_iload_n E dX12_tread_170 1 rfl ?_
      refine j_dup2_11 E dX12_tread_171 rfl rfl ?_
      obtain ⟨o21, h⟩ := h
      refine j_iald E kb20 (by rw [lb20]; exact o21) dX12_tread_172 ?_
      refine j_iload E dX12_tread_173 4 rfl ?_
      refine j_isub E dX12_tread_175 ?_
      obtain ⟨o22, h⟩ := h
      refine j_iast E kb20 (by rw [lb20]; exact o22) dX12_tread_176 ?_
      refine j_nmI (fun I23 eI23 => ?_)
      have h := h I23 eI23
      refine j_aload_n E dX12_tread_177 0 rfl ?_
      obtain ⟨b24, eb24, kb24, lb24⟩ := sh_f hZ kv0 (j := 16) (k := 14) (m := 6) rfl
      have h := h b24 eb24
      refine j_getr E 12 16 rfl rfl (by decide) (by decide) (iw iT_12) rfl rfl (tw W_735) kv0 eb24 dX12_tread_178 ?_
      refine j_iload_n E dX12_tread_181 1 rfl ?_
      refine j_dup2_11 E dX12_tread_182 rfl rfl ?_
      obtain ⟨o25, h⟩ := h
      refine j_iald E kb24 (by rw [lb24]; exact o25) dX12_tread_183 ?_
      refine j_iload E dX12_tread_184 5 rfl ?_
      refine j_isub E dX12_tread_186 ?_
      obtain ⟨o26, h⟩ := h
      refine j_iast E kb24 (by rw [lb24]; exact o26) dX12_tread_187 ?_
      refine j_nmI (fun I27 eI27 => ?_)
      have h := h I27 eI27
      refine j_aload_n E dX12_tread_188 0 rfl ?_
      obtain ⟨b28, eb28, kb28, lb28⟩ := sh_f hZ kv0 (j := 14) (k := 14) (m := 6) rfl
      have h := h b28 eb28
      refine j_getr E 12 14 rfl rfl (by decide) (by decide) (iw iT_12) rfl rfl (tw W_732) kv0 eb28 dX12_tread_189 ?_
      refine j_iload_n E dX12_tread_192 1 rfl ?_
      refine j_iload_n E dX12_tread_193 2 rfl ?_
      obtain ⟨o29, h⟩ := h
      refine j_iast E kb28 (by rw [lb28]; exact o29) dX12_tread_194 ?_
      refine j_nmI (fun I30 eI30 => ?_)
      have h := h I30 eI30
      refine j_iload E dX12_tread_195 5 rfl ?_
      exact ju_ireturn E EU hc hb ⟨hx, hZ, hb, _, rfl, h⟩ dX12_tread_197
    · have h := h.2 c19
      refine j_aload_n E dX12_tread_127 0 rfl ?_
      refine j_iload E dX12_tread_128 7 rfl ?_
      refine j_aload_n E dX12_tread_130 0 rfl ?_
      refine j_iload E dX12_tread_131 7 rfl ?_
      refine j_iload_n E dX12_tread_133 2 rfl ?_
      refine j_icmp_ne E 141 dX12_tread_134 (by decide) (fun c31 => ?_) (fun c31 => ?_)
      · have h := h.1 c31
        refine j_iconst E (v := 1) dX12_tread_141 (by decide) ?_
        refine j_sub [0, 1, 2, 3, 4, 5, 6, 7] rfl ?_
        exact m_X12_tread_b142 E EU K121 hK121 v0 v1 v2 v3 v4 v5 v6 v7 v0 v7 v0 (1 : Int32) Z I L hZ hx hc hb kv0 kv0 kv0 h
      · have h := h.2 c31
        refine j_iconst E (v := 0) dX12_tread_137 (by decide) ?_
        refine j_goto E 142 dX12_tread_138 (by decide) ?_
        refine j_sub [0, 1, 2, 3, 4, 5, 6, 7] rfl ?_
        exact m_X12_tread_b142 E EU K121 hK121 v0 v1 v2 v3 v4 v5 v6 v7 v0 v7 v0 (0 : Int32) Z I L hZ hx hc hb kv0 kv0 kv0 h
set_option maxRecDepth 100000 in
def f_X12_tread (B : Nat × Nat) (v0 : Nat) (v1 : Int32) (v2 : Int32) (Z : jZ) (I : jI) (L : jL) (Q : Int32 → jZ → jI → jL → Prop) : Prop := (∀ I32 : jI, I32 = jpI I v0 22 (0 : Int32) → (f_X12_isOne v0 v1 Z I32 L (fun r39 I35 L36 => ((r39 = 0 → Q (-1 : Int32) Z I35 L36) ∧ (¬ (r39 = 0) → (f_X12_isStep v0 v2 Z I35 L36 (fun r47 I43 L44 => ((¬ r47 = 0 → (∀ b49 : Nat, jr Z v0 14 = some b49 → (vp_in v1 6 ∧ (∀ x51 : Int32, x51 = (I43 b49 v1.toNatClampNeg) → (f_X12_isMove v0 v1 x51 v2 Z I43 L44 (fun r58 I54 L55 => ((¬ r58 = 0 → (f_X12_effortOf v0 v1 x51 v2 Z I54 L55 (fun r66 I62 L63 => (f_X12_costOf B v0 v1 x51 v2 Z I62 L63 (fun r73 Z68 I69 L70 => (∀ b75 : Nat, jr Z68 v0 13 = some b75 → (vp_in v1 6 ∧ (f_X12_mainOf v0 v2 Z68 I69 L70 (fun r83 I79 L80 => (f_X12_has (I69 b75 v1.toNatClampNeg) r83 Z68 I79 L80 (fun r90 I86 L87 => ((r90 = 0 → (∀ b92 : Nat, jr Z68 v0 15 = some b92 → (vp_in v1 6 ∧ ((r66 ≤ (I86 b92 v1.toNatClampNeg) → (∀ b95 : Nat, jr Z68 v0 16 = some b95 → (vp_in v1 6 ∧ ((r73 ≤ (I86 b95 v1.toNatClampNeg) → (∀ x98 : Int32, x98 = ((v2 - x51) - (1 : Int32)) → (∀ x99 : Int32, x99 = (x51 + (1 : Int32)) → (∃ m121 : Nat, f_X12_tread_L121 B  Q m121 v0 v1 v2 x51 r66 r73 x98 x99 Z68 I86 L87)))) ∧ (¬ (r73 ≤ (I86 b95 v1.toNatClampNeg)) → Q (-5 : Int32) Z68 I86 L87))))) ∧ (¬ (r66 ≤ (I86 b92 v1.toNatClampNeg)) → Q (-4 : Int32) Z68 I86 L87))))) ∧ (¬ (r90 = 0) → Q (-3 : Int32) Z68 I86 L87))))))))))))) ∧ (r58 = 0 → Q (-2 : Int32) Z I54 L55)))))))) ∧ (r47 = 0 → Q (-1 : Int32) Z I43 L44)))))))))
set_option maxHeartbeats 4000000 in
set_option maxRecDepth 100000 in
theorem c_X12_tread (l : Launch) (D : va_G) (cy : jC) (B : Nat × Nat) (v0 : Nat) (v1 : Int32) (v2 : Int32) (Z : jZ) (I : jI) (L : jL) (Q : Int32 → jZ → jI → jL → Prop) (hZ : SH Z) (hb : jin B Z) (kv0 : jk Z v0 12) (h : f_X12_tread B v0 v1 v2 Z I L Q) : jCtU l yX12_tread w_X12_tread B 105 2539 D cy [.ref v0, .int v1, .int v2] Z I L (urtI B Z Q) := by
  refine jCtU_of (cc := cX12_tread) (maxL := 8) (ret := (some .int)) (by decide +kernel) rfl (Nat.le_of_ble_eq_true rfl) ?_
  intro G eD eY eL E EU
  subst eD; subst eY; subst eL
  have E : jE G cX12_tread RX12 w_X12_tread 8 (some .int) (jrm B 105 2539 Z) jRF := E
  have hx : jext Z Z := jext_rfl
  have hc : jle Z Z := jle_rfl
  show jJ G 8 0 [(0, .ref v0), (1, .int v1), (2, .int v2)] [] Z I L (jcz Z - jcz Z) (jsz Z - jsz Z)
  refine j_aload_n E dX12_tread_0 0 rfl ?_
  refine j_iconst E (v := 0) dX12_tread_1 (by decide) ?_
  refine j_puti E 12 22 rfl rfl (by decide) (by decide) (iw iT_12) tyX12_ok nmX12 rfl rfl (tw W_690) rfl rfl rfl kv0 dX12_tread_2 ?_
  refine j_nmI (fun I32 eI32 => ?_)
  have h := h I32 eI32
  refine j_aload_n E dX12_tread_5 0 rfl ?_
  refine j_iload_n E dX12_tread_6 1 rfl ?_
  refine j_callV E [.int v1] [] (c_X12_isOne (gL G) (gD G) (gY G) v0 v1 Z I32 L _ hZ kv0 h) (gwV W_804 W_805 W_806 W_695 W_803) rfl ⟨rfl, fy_X12_isOne⟩ ⟨Nat.le_of_ble_eq_true rfl, Nat.le_of_ble_eq_true rfl⟩ (c := 12) rfl (by decide) kv0 rfl rfl (Nat.le_of_ble_eq_true rfl) (ju_kn hb) dX12_tread_7 (fun v33 Z34 I35 L36 q37 => ?_)
  obtain ⟨rfl, r39, rfl, zr39, h⟩ := q37
  show jJ G 8 10 [(0, .ref v0), (1, .int v1), (2, .int v2)] [.int r39] Z I35 L36 (jcz Z - jcz Z) (jsz Z - jsz Z)
  refine j_if_eq E 21 dX12_tread_10 (by decide) (fun c40 => ?_) (fun c40 => ?_)
  · have h := h.1 c40
    refine j_iconst E (v := -1) dX12_tread_21 (by decide) ?_
    exact ju_ireturn E EU hc hb ⟨hx, hZ, hb, _, rfl, h⟩ dX12_tread_22
  · have h := h.2 c40
    refine j_aload_n E dX12_tread_13 0 rfl ?_
    refine j_iload_n E dX12_tread_14 2 rfl ?_
    refine j_callV E [.int v2] [] (c_X12_isStep (gL G) (gD G) (gY G) v0 v2 Z I35 L36 _ hZ kv0 h) (gwV W_790 W_791 W_792 W_695 W_789) rfl ⟨rfl, fy_X12_isStep⟩ ⟨Nat.le_of_ble_eq_true rfl, Nat.le_of_ble_eq_true rfl⟩ (c := 12) rfl (by decide) kv0 rfl rfl (Nat.le_of_ble_eq_true rfl) (ju_kn hb) dX12_tread_15 (fun v41 Z42 I43 L44 q45 => ?_)
    obtain ⟨rfl, r47, rfl, zr47, h⟩ := q45
    show jJ G 8 18 [(0, .ref v0), (1, .int v1), (2, .int v2)] [.int r47] Z I43 L44 (jcz Z - jcz Z) (jsz Z - jsz Z)
    refine j_if_ne E 23 dX12_tread_18 (by decide) (fun c48 => ?_) (fun c48 => ?_)
    · have h := h.1 c48
      refine j_aload_n E dX12_tread_23 0 rfl ?_
      obtain ⟨b49, eb49, kb49, lb49⟩ := sh_f hZ kv0 (j := 14) (k := 14) (m := 6) rfl
      have h := h b49 eb49
      refine j_getr E 12 14 rfl rfl (by decide) (by decide) (iw iT_12) rfl rfl (tw W_732) kv0 eb49 dX12_tread_24 ?_
      refine j_iload_n E dX12_tread_27 1 rfl ?_
      obtain ⟨o50, h⟩ := h
      refine j_iald E kb49 (by rw [lb49]; exact o50) dX12_tread_28 ?_
      refine j_topi (fun x51 ex51 => ?_)
      have h := h x51 ex51
      refine j_istore_n E 3 [(3, .int x51), (0, .ref v0), (1, .int v1), (2, .int v2)] dX12_tread_29 rfl (by decide) rfl ?_
      refine j_aload_n E dX12_tread_30 1 rfl ?_
      refine j_iload_n E dX12_tread_31 2 rfl ?_
      refine j_iload_n E dX12_tread_32 0 rfl ?_
      refine j_iload_n E dX12_tread_33 3 rfl ?_
      refine j_callV E [.int v1, .int x51, .int v2] [] (c_X12_isMove (gL G) (gD G) (gY G) v0 v1 x51 v2 Z I43 L44 _ hZ kv0 h) (gwV W_812 W_813 W_814 W_695 W_811) rfl ⟨rfl, fy_X12_isMove⟩ ⟨Nat.le_of_ble_eq_true rfl, Nat.le_of_ble_eq_true rfl⟩ (c := 12) rfl (by decide) kv0 rfl rfl (Nat.le_of_ble_eq_true rfl) (ju_kn hb) dX12_tread_34 (fun v52 Z53 I54 L55 q56 => ?_)
      obtain ⟨rfl, r58, rfl, zr58, h⟩ := q56
      show jJ G 8 37 [(3, .int x51), (0, .ref v0), (1, .int v1), (2, .int v2)] [.int r58] Z I54 L55 (jcz Z - jcz Z) (jsz Z - jsz Z)
      refine j_if_ne E 43 dX12_tread_37 (by decide) (fun c59 => ?_) (fun c59 => ?_)
      · have h := h.1 c59
        refine j_aload_n E dX12_tread_43 1 rfl ?_
        refine j_iload_n E dX12_tread_44 2 rfl ?_
        refine j_iload_n E dX12_tread_45 0 rfl ?_
        refine j_iload_n E dX12_tread_46 3 rfl ?_
        refine j_callV E [.int v1, .int x51, .int v2] [] (c_X12_effortOf (gL G) (gD G) (gY G) v0 v1 x51 v2 Z I54 L55 _ hZ kv0 h) (gwV W_816 W_817 W_818 W_695 W_815) rfl ⟨rfl, fy_X12_effortOf⟩ ⟨Nat.le_of_ble_eq_true rfl, Nat.le_of_ble_eq_true rfl⟩ (c := 12) rfl (by decide) kv0 rfl rfl (Nat.le_of_ble_eq_true rfl) (ju_kn hb) dX12_tread_47 (fun v60 Z61 I62 L63 q64 => ?_)
        obtain ⟨rfl, r66, rfl, h⟩ := q64
        show jJ G 8 50 [(3, .int x51), (0, .ref v0), (1, .int v1), (2, .int v2)] [.int r66] Z I62 L63 (jcz Z - jcz Z) (jsz Z - jsz Z)
        refine j_istore E 4 [(4, .int r66), (3, .int x51), (0, .ref v0), (1, .int v1), (2, .int v2)] dX12_tread_50 (by decide) rfl ?_
        refine j_aload_n E dX12_tread_52 2 rfl ?_
        refine j_iload_n E dX12_tread_53 3 rfl ?_
        refine j_iload_n E dX12_tread_54 1 rfl ?_
        refine j_iload_n E dX12_tread_55 4 rfl ?_
        refine ju_callV E [.int v1, .int x51, .int v2] [] (c_X12_costOf (gL G) (gD G) (gY G) B v0 v1 x51 v2 Z I62 L63 _ hZ hb kv0 h) (gwV W_824 W_825 W_826 W_695 W_823) rfl ⟨rfl, fy_X12_costOf⟩ ⟨Nat.le_of_ble_eq_true rfl, Nat.le_of_ble_eq_true rfl⟩ (c := 12) rfl (by decide) kv0 rfl rfl (Nat.le_of_ble_eq_true rfl) (ju_f hc hb) dX12_tread_56 (fun v67 Z68 I69 L70 q71 j72 => ?_)
        refine ju_next hc j72 ?_
        have hc := jle_trans hc j72
        obtain ⟨yZ68, hZ68, hbZ68, r73, rfl, h⟩ := q71
        have hZ := hZ68
        have hx : jext Z Z68 := jext_trans hx yZ68
        have hb := hbZ68
        have k74 := (yZ68 _ _ kv0).1
        show jJ G 8 59 [(4, .int r66), (3, .int x51), (0, .ref v0), (1, .int v1), (2, .int v2)] [.int r73] Z68 I69 L70 (jcz Z68 - jcz Z) (jsz Z68 - jsz Z)
        refine j_istore E 5 [(5, .int r73), (4, .int r66), (3, .int x51), (0, .ref v0), (1, .int v1), (2, .int v2)] dX12_tread_59 (by decide) rfl ?_
        refine j_aload_n E dX12_tread_61 3 rfl ?_
        obtain ⟨b75, eb75, kb75, lb75⟩ := sh_f hZ k74 (j := 13) (k := 14) (m := 6) rfl
        have h := h b75 eb75
        refine j_getr E 12 13 rfl rfl (by decide) (by decide) (iw iT_12) rfl rfl (tw W_802) k74 eb75 dX12_tread_62 ?_
        refine j_iload_n E dX12_tread_65 4 rfl ?_
        obtain ⟨o76, h⟩ := h
        refine j_iald E kb75 (by rw [lb75]; exact o76) dX12_tread_66 ?_
        refine j_aload_n E dX12_tread_67 3 rfl ?_
        refine j_iload_n E dX12_tread_68 5 rfl ?_
        refine j_callV E [.int v2] [.int (I69 b75 v1.toNatClampNeg)] (c_X12_mainOf (gL G) (gD G) (gY G) v0 v2 Z68 I69 L70 _ hZ k74 h) (gwV W_757 W_758 W_759 W_695 W_756) rfl ⟨rfl, fy_X12_mainOf⟩ ⟨Nat.le_of_ble_eq_true rfl, Nat.le_of_ble_eq_true rfl⟩ (c := 12) rfl (by decide) k74 rfl rfl (Nat.le_of_ble_eq_true rfl) (ju_kn hb) dX12_tread_69 (fun v77 Z78 I79 L80 q81 => ?_)
        obtain ⟨rfl, r83, rfl, h⟩ := q81
        show jJ G 8 72 [(5, .int r73), (4, .int r66), (3, .int x51), (0, .ref v0), (1, .int v1), (2, .int v2)] [.int r83, .int (I69 b75 v1.toNatClampNeg)] Z68 I79 L80 (jcz Z68 - jcz Z) (jsz Z68 - jsz Z)
        refine j_callS E [.int (I69 b75 v1.toNatClampNeg), .int r83] [] (c_X12_has (gL G) (gD G) (gY G) (I69 b75 v1.toNatClampNeg) r83 Z68 I79 L80 _ hZ  h) (gwS W_840 W_841 W_695 W_839) rfl fy_X12_has ⟨Nat.le_of_ble_eq_true rfl, Nat.le_of_ble_eq_true rfl⟩ rfl rfl (Nat.le_of_ble_eq_true rfl) (ju_kn hb) dX12_tread_72 (fun v84 Z85 I86 L87 q88 => ?_)
        obtain ⟨rfl, r90, rfl, zr90, h⟩ := q88
        show jJ G 8 75 [(5, .int r73), (4, .int r66), (3, .int x51), (0, .ref v0), (1, .int v1), (2, .int v2)] [.int r90] Z68 I86 L87 (jcz Z68 - jcz Z) (jsz Z68 - jsz Z)
        refine j_if_eq E 81 dX12_tread_75 (by decide) (fun c91 => ?_) (fun c91 => ?_)
        · have h := h.1 c91
          refine j_iload E dX12_tread_81 1 rfl ?_
          refine j_aload_n E dX12_tread_83 3 rfl ?_
          obtain ⟨b92, eb92, kb92, lb92⟩ := sh_f hZ k74 (j := 15) (k := 14) (m := 6) rfl
          have h := h b92 eb92
          refine j_getr E 12 15 rfl rfl (by decide) (by decide) (iw iT_12) rfl rfl (tw W_733) k74 eb92 dX12_tread_84 ?_
          refine j_iload_n E dX12_tread_87 4 rfl ?_
          obtain ⟨o93, h⟩ := h
          refine j_iald E kb92 (by rw [lb92]; exact o93) dX12_tread_88 ?_
          refine j_icmp_le E 95 dX12_tread_89 (by decide) (fun c94 => ?_) (fun c94 => ?_)
          · have h := h.1 c94
            refine j_iload E dX12_tread_95 0 rfl ?_
            refine j_aload_n E dX12_tread_97 3 rfl ?_
            obtain ⟨b95, eb95, kb95, lb95⟩ := sh_f hZ k74 (j := 16) (k := 14) (m := 6) rfl
            have h := h b95 eb95
            refine j_getr E 12 16 rfl rfl (by decide) (by decide) (iw iT_12) rfl rfl (tw W_735) k74 eb95 dX12_tread_98 ?_
            refine j_iload_n E dX12_tread_101 4 rfl ?_
            obtain ⟨o96, h⟩ := h
            refine j_iald E kb95 (by rw [lb95]; exact o96) dX12_tread_102 ?_
            refine j_icmp_le E 109 dX12_tread_103 (by decide) (fun c97 => ?_) (fun c97 => ?_)
            · have h := h.1 c97
              refine j_iload_n E dX12_tread_109 5 rfl ?_
              refine j_iload_n E dX12_tread_110 2 rfl ?_
              refine j_isub E dX12_tread_111 ?_
              refine j_iconst E (v := 1) dX12_tread_112 (by decide) ?_
              refine j_isub E dX12_tread_113 ?_
              refine j_topi (fun x98 ex98 => ?_)
              have h := h x98 ex98
              refine j_istore E 6 [(6, .int x98), (5, .int r73), (4, .int r66), (3, .int x51), (0, .ref v0), (1, .int v1), (2, .int v2)] dX12_tread_114 (by decide) rfl ?_
              refine j_iload_n E dX12_tread_116 3 rfl ?_
              refine j_iconst E (v := 1) dX12_tread_117 (by decide) ?_
              refine j_iadd E dX12_tread_118 ?_
              refine j_topi (fun x99 ex99 => ?_)
              have h := h x99 ex99
              refine j_istore E 7 [(7, .int x99), (6, .int x98), (5, .int r73), (4, .int r66), (3, .int x51), (0, .ref v0), (1, .int v1), (2, .int v2)] dX12_tread_119 (by decide) rfl ?_
              obtain ⟨n100, h⟩ := h
              refine j_sub [5, 6, 7, 4, 3, 2, 1, 0] rfl ?_
              exact m_X12_tread_L121 E EU  n100 v0 v1 v2 x51 r66 r73 x98 x99 Z68 I86 L87 hZ hx hc hb k74 h
            · have h := h.2 c97
              refine j_bipush E (v := -5) dX12_tread_106 (by decide) ?_
              exact ju_ireturn E EU hc hb ⟨hx, hZ, hb, _, rfl, h⟩ dX12_tread_108
          · have h := h.2 c94
            refine j_bipush E (v := -4) dX12_tread_92 (by decide) ?_
            exact ju_ireturn E EU hc hb ⟨hx, hZ, hb, _, rfl, h⟩ dX12_tread_94
        · have h := h.2 c91
          refine j_bipush E (v := -3) dX12_tread_78 (by decide) ?_
          exact ju_ireturn E EU hc hb ⟨hx, hZ, hb, _, rfl, h⟩ dX12_tread_80
      · have h := h.2 c59
        refine j_bipush E (v := -2) dX12_tread_40 (by decide) ?_
        exact ju_ireturn E EU hc hb ⟨hx, hZ, hb, _, rfl, h⟩ dX12_tread_42
    · have h := h.2 c48
      refine j_iconst E (v := -1) dX12_tread_21 (by decide) ?_
      exact ju_ireturn E EU hc hb ⟨hx, hZ, hb, _, rfl, h⟩ dX12_tread_22
set_option maxRecDepth 100000 in
def f_X12_rests_b55 (B : Nat × Nat)  (Q : Int32 → jZ → jI → jL → Prop) (v0 : Nat) (v1 : Int32) (v2 : Int32) (v3 : Int32) (s0 : Int32) (Z : jZ) (I : jI) (L : jL) : Prop := (∀ b1 : Nat, jr Z v0 16 = some b1 → (vp_in v1 6 ∧ ((s0 ≤ (I b1 v1.toNatClampNeg) → (∀ b4 : Nat, jr Z v0 16 = some b4 → (vp_in v1 6 ∧ (vp_in v1 6 ∧ (∀ I7 : jI, I7 = jpI I b4 v1.toNatClampNeg ((I b4 v1.toNatClampNeg) - s0) → (∀ b8 : Nat, jr Z v0 15 = some b8 → (∀ b9 : Nat, jr Z v0 9 = some b9 → (vp_in v1 6 ∧ (∀ b11 : Nat, jr Z v0 15 = some b11 → (vp_in v1 6 ∧ (vp_in v1 6 ∧ (∀ I14 : jI, I14 = jpI I7 b8 v1.toNatClampNeg (if ((I7 b11 v1.toNatClampNeg) + v2) < (I7 b9 v1.toNatClampNeg) then ((I7 b11 v1.toNatClampNeg) + v2) else (I7 b9 v1.toNatClampNeg)) → ((v3 = (-1 : Int32) → Q s0 Z I14 L) ∧ (¬ (v3 = (-1 : Int32)) → (f_X12_earn v0 v3 s0 (1 : Int32) Z I14 L (fun I18 L19 => Q s0 Z I18 L19)))))))))))))))) ∧ (¬ (s0 ≤ (I b1 v1.toNatClampNeg)) → Q (-5 : Int32) Z I L))))
set_option maxHeartbeats 4000000 in
set_option maxRecDepth 100000 in
theorem m_X12_rests_b55 {G : jG} {B : Nat × Nat} {Z0 : jZ} {Q : Int32 → jZ → jI → jL → Prop} (E : jE G cX12_rests RX12 w_X12_rests 5 (some .int) (jrm B 104 2513 Z0) jRF) (EU : jEU G B Z0 (urtI B Z0 Q))  (v0 : Nat) (v1 : Int32) (v2 : Int32) (v3 : Int32) (s0 : Int32) (Z : jZ) (I : jI) (L : jL) (hZ : SH Z) (hx : jext Z0 Z) (hc : jle Z0 Z) (hb : jin B Z) (kv0 : jk Z v0 12) (h : f_X12_rests_b55 B  Q v0 v1 v2 v3 s0 Z I L) : jJ G 5 55 [(0, .ref v0), (1, .int v1), (2, .int v2), (3, .int v3)] [.int s0] Z I L (jcz Z - jcz Z0) (jsz Z - jsz Z0) := by
  refine j_istore E 4 [(4, .int s0), (0, .ref v0), (1, .int v1), (2, .int v2), (3, .int v3)] dX12_rests_55 (by decide) rfl ?_
  refine j_iload E dX12_rests_57 0 rfl ?_
  refine j_aload_n E dX12_rests_59 1 rfl ?_
  obtain ⟨b1, eb1, kb1, lb1⟩ := sh_f hZ kv0 (j := 16) (k := 14) (m := 6) rfl
  have h := h b1 eb1
  refine j_getr E 12 16 rfl rfl (by decide) (by decide) (iw iT_12) rfl rfl (tw W_735) kv0 eb1 dX12_rests_60 ?_
  refine j_iload_n E dX12_rests_63 2 rfl ?_
  obtain ⟨o2, h⟩ := h
  refine j_iald E kb1 (by rw [lb1]; exact o2) dX12_rests_64 ?_
  refine j_icmp_le E 71 dX12_rests_65 (by decide) (fun c3 => ?_) (fun c3 => ?_)
  · have h := h.1 c3
    refine j_aload_n E dX12_rests_71 1 rfl ?_
    obtain ⟨b4, eb4, kb4, lb4⟩ := sh_f hZ kv0 (j := 16) (k := 14) (m := 6) rfl
    have h := h b4 eb4
    refine j_getr E 12 16 rfl rfl (by decide) (by decide) (iw iT_12) rfl rfl (tw W_735) kv0 eb4 dX12_rests_72 ?_
    refine j_iload_n E dX12_rests_75 2 rfl ?_
    refine j_dup2_11 E dX12_rests_76 rfl rfl ?_
    obtain ⟨o5, h⟩ := h
    refine j_iald E kb4 (by rw [lb4]; exact o5) dX12_rests_77 ?_
    refine j_iload E dX12_rests_78 0 rfl ?_
    refine j_isub E dX12_rests_80 ?_
    obtain ⟨o6, h⟩ := h
    refine j_iast E kb4 (by rw [lb4]; exact o6) dX12_rests_81 ?_
    refine j_nmI (fun I7 eI7 => ?_)
    have h := h I7 eI7
    refine j_aload_n E dX12_rests_82 1 rfl ?_
    obtain ⟨b8, eb8, kb8, lb8⟩ := sh_f hZ kv0 (j := 15) (k := 14) (m := 6) rfl
    have h := h b8 eb8
    refine j_getr E 12 15 rfl rfl (by decide) (by decide) (iw iT_12) rfl rfl (tw W_733) kv0 eb8 dX12_rests_83 ?_
    refine j_iload_n E dX12_rests_86 2 rfl ?_
    refine j_aload_n E dX12_rests_87 1 rfl ?_
    obtain ⟨b9, eb9, kb9, lb9⟩ := sh_f hZ kv0 (j := 9) (k := 14) (m := 6) rfl
    have h := h b9 eb9
    refine j_getr E 12 9 rfl rfl (by decide) (by decide) (iw iT_12) rfl rfl (tw W_734) kv0 eb9 dX12_rests_88 ?_
    refine j_iload_n E dX12_rests_91 2 rfl ?_
    obtain ⟨o10, h⟩ := h
    refine j_iald E kb9 (by rw [lb9]; exact o10) dX12_rests_92 ?_
    refine j_aload_n E dX12_rests_93 1 rfl ?_
    obtain ⟨b11, eb11, kb11, lb11⟩ := sh_f hZ kv0 (j := 15) (k := 14) (m := 6) rfl
    have h := h b11 eb11
    refine j_getr E 12 15 rfl rfl (by decide) (by decide) (iw iT_12) rfl rfl (tw W_733) kv0 eb11 dX12_rests_94 ?_
    refine j_iload_n E dX12_rests_97 2 rfl ?_
    obtain ⟨o12, h⟩ := h
    refine j_iald E kb11 (by rw [lb11]; exact o12) dX12_rests_98 ?_
    refine j_iload_n E dX12_rests_99 3 rfl ?_
    refine j_iadd E dX12_rests_100 ?_
    refine j_min E (tw W_783) (tw W_7) (tw W_8) (tw W_9) (Nat.le_of_ble_eq_true rfl) (Nat.le_of_ble_eq_true rfl) (ju_k hb) (ju_n hb) dX12_rests_101 ?_
    obtain ⟨o13, h⟩ := h
    refine j_iast E kb8 (by rw [lb8]; exact o13) dX12_rests_104 ?_
    refine j_nmI (fun I14 eI14 => ?_)
    have h := h I14 eI14
    refine j_iload_n E dX12_rests_105 4 rfl ?_
    refine j_iconst E (v := -1) dX12_rests_106 (by decide) ?_
    refine j_icmp_eq E 118 dX12_rests_107 (by decide) (fun c15 => ?_) (fun c15 => ?_)
    · have h := h.1 c15
      refine j_iload E dX12_rests_118 0 rfl ?_
      exact ju_ireturn E EU hc hb ⟨hx, hZ, hb, _, rfl, h⟩ dX12_rests_120
    · have h := h.2 c15
      refine j_aload_n E dX12_rests_110 1 rfl ?_
      refine j_iload_n E dX12_rests_111 4 rfl ?_
      refine j_iload E dX12_rests_112 0 rfl ?_
      refine j_iconst E (v := 1) dX12_rests_114 (by decide) ?_
      refine j_callV E [.int v3, .int s0, .int (1 : Int32)] [] (c_X12_earn (gL G) (gD G) (gY G) v0 v3 s0 (1 : Int32) Z I14 L _ hZ kv0 h) (gwV W_836 W_837 W_838 W_695 W_835) rfl ⟨rfl, fy_X12_earn⟩ ⟨Nat.le_of_ble_eq_true rfl, Nat.le_of_ble_eq_true rfl⟩ (c := 12) rfl (by decide) kv0 rfl rfl (Nat.le_of_ble_eq_true rfl) (ju_kn hb) dX12_rests_115 (fun v16 Z17 I18 L19 q20 => ?_)
      obtain ⟨rfl, rfl, h⟩ := q20
      show jJ G 5 118 [(4, .int s0), (0, .ref v0), (1, .int v1), (2, .int v2), (3, .int v3)] [] Z I18 L19 (jcz Z - jcz Z0) (jsz Z - jsz Z0)
      refine j_iload E dX12_rests_118 0 rfl ?_
      exact ju_ireturn E EU hc hb ⟨hx, hZ, hb, _, rfl, h⟩ dX12_rests_120
  · have h := h.2 c3
    refine j_bipush E (v := -5) dX12_rests_68 (by decide) ?_
    exact ju_ireturn E EU hc hb ⟨hx, hZ, hb, _, rfl, h⟩ dX12_rests_70
set_option maxRecDepth 100000 in
def f_X12_rests (B : Nat × Nat) (v0 : Nat) (v1 : Int32) (v2 : Int32) (Z : jZ) (I : jI) (L : jL) (Q : Int32 → jZ → jI → jL → Prop) : Prop := (∀ I22 : jI, I22 = jpI I v0 22 (0 : Int32) → (f_X12_isOne v0 v1 Z I22 L (fun r29 I25 L26 => ((r29 = 0 → Q (-1 : Int32) Z I25 L26) ∧ (¬ (r29 = 0) → (f_X12_in v2 (1 : Int32) (30 : Int32) Z I25 L26 (fun r37 I33 L34 => ((¬ r37 = 0 → (∀ b39 : Nat, jr Z v0 14 = some b39 → (vp_in v1 6 ∧ (∀ x41 : Int32, x41 = (I33 b39 v1.toNatClampNeg) → ((¬ x41 = (-1 : Int32) → (∀ b43 : Nat, jr Z v0 12 = some b43 → (vp_in v1 6 ∧ (f_X12_lawOf B v0 (0 : Int32) x41 x41 (I33 b43 v1.toNatClampNeg) (0 : Int32) Z I33 L34 (fun r51 Z46 I47 L48 => f_X12_rests_b55 B  Q v0 v1 v2 x41 r51 Z46 I47 L48))))) ∧ (x41 = (-1 : Int32) → f_X12_rests_b55 B  Q v0 v1 v2 x41 (0 : Int32) Z I33 L34)))))) ∧ (r37 = 0 → Q (-1 : Int32) Z I33 L34)))))))))
set_option maxHeartbeats 4000000 in
set_option maxRecDepth 100000 in
theorem c_X12_rests (l : Launch) (D : va_G) (cy : jC) (B : Nat × Nat) (v0 : Nat) (v1 : Int32) (v2 : Int32) (Z : jZ) (I : jI) (L : jL) (Q : Int32 → jZ → jI → jL → Prop) (hZ : SH Z) (hb : jin B Z) (kv0 : jk Z v0 12) (h : f_X12_rests B v0 v1 v2 Z I L Q) : jCtU l yX12_rests w_X12_rests B 104 2513 D cy [.ref v0, .int v1, .int v2] Z I L (urtI B Z Q) := by
  refine jCtU_of (cc := cX12_rests) (maxL := 5) (ret := (some .int)) (by decide +kernel) rfl (Nat.le_of_ble_eq_true rfl) ?_
  intro G eD eY eL E EU
  subst eD; subst eY; subst eL
  have E : jE G cX12_rests RX12 w_X12_rests 5 (some .int) (jrm B 104 2513 Z) jRF := E
  have hx : jext Z Z := jext_rfl
  have hc : jle Z Z := jle_rfl
  show jJ G 5 0 [(0, .ref v0), (1, .int v1), (2, .int v2)] [] Z I L (jcz Z - jcz Z) (jsz Z - jsz Z)
  refine j_aload_n E dX12_rests_0 0 rfl ?_
  refine j_iconst E (v := 0) dX12_rests_1 (by decide) ?_
  refine j_puti E 12 22 rfl rfl (by decide) (by decide) (iw iT_12) tyX12_ok nmX12 rfl rfl (tw W_690) rfl rfl rfl kv0 dX12_rests_2 ?_
  refine j_nmI (fun I22 eI22 => ?_)
  have h := h I22 eI22
  refine j_aload_n E dX12_rests_5 0 rfl ?_
  refine j_iload_n E dX12_rests_6 1 rfl ?_
  refine j_callV E [.int v1] [] (c_X12_isOne (gL G) (gD G) (gY G) v0 v1 Z I22 L _ hZ kv0 h) (gwV W_804 W_805 W_806 W_695 W_803) rfl ⟨rfl, fy_X12_isOne⟩ ⟨Nat.le_of_ble_eq_true rfl, Nat.le_of_ble_eq_true rfl⟩ (c := 12) rfl (by decide) kv0 rfl rfl (Nat.le_of_ble_eq_true rfl) (ju_kn hb) dX12_rests_7 (fun v23 Z24 I25 L26 q27 => ?_)
  obtain ⟨rfl, r29, rfl, zr29, h⟩ := q27
  show jJ G 5 10 [(0, .ref v0), (1, .int v1), (2, .int v2)] [.int r29] Z I25 L26 (jcz Z - jcz Z) (jsz Z - jsz Z)
  refine j_if_eq E 23 dX12_rests_10 (by decide) (fun c30 => ?_) (fun c30 => ?_)
  · have h := h.1 c30
    refine j_iconst E (v := -1) dX12_rests_23 (by decide) ?_
    exact ju_ireturn E EU hc hb ⟨hx, hZ, hb, _, rfl, h⟩ dX12_rests_24
  · have h := h.2 c30
    refine j_iload_n E dX12_rests_13 2 rfl ?_
    refine j_iconst E (v := 1) dX12_rests_14 (by decide) ?_
    refine j_bipush E (v := 30) dX12_rests_15 (by decide) ?_
    refine j_callS E [.int v2, .int (1 : Int32), .int (30 : Int32)] [] (c_X12_in (gL G) (gD G) (gY G) v2 (1 : Int32) (30 : Int32) Z I25 L26 _ hZ  h) (gwS W_696 W_697 W_695 W_694) rfl fy_X12_in ⟨Nat.le_of_ble_eq_true rfl, Nat.le_of_ble_eq_true rfl⟩ rfl rfl (Nat.le_of_ble_eq_true rfl) (ju_kn hb) dX12_rests_17 (fun v31 Z32 I33 L34 q35 => ?_)
    obtain ⟨rfl, r37, rfl, zr37, h⟩ := q35
    show jJ G 5 20 [(0, .ref v0), (1, .int v1), (2, .int v2)] [.int r37] Z I33 L34 (jcz Z - jcz Z) (jsz Z - jsz Z)
    refine j_if_ne E 25 dX12_rests_20 (by decide) (fun c38 => ?_) (fun c38 => ?_)
    · have h := h.1 c38
      refine j_aload_n E dX12_rests_25 0 rfl ?_
      obtain ⟨b39, eb39, kb39, lb39⟩ := sh_f hZ kv0 (j := 14) (k := 14) (m := 6) rfl
      have h := h b39 eb39
      refine j_getr E 12 14 rfl rfl (by decide) (by decide) (iw iT_12) rfl rfl (tw W_732) kv0 eb39 dX12_rests_26 ?_
      refine j_iload_n E dX12_rests_29 1 rfl ?_
      obtain ⟨o40, h⟩ := h
      refine j_iald E kb39 (by rw [lb39]; exact o40) dX12_rests_30 ?_
      refine j_topi (fun x41 ex41 => ?_)
      have h := h x41 ex41
      refine j_istore_n E 3 [(3, .int x41), (0, .ref v0), (1, .int v1), (2, .int v2)] dX12_rests_31 rfl (by decide) rfl ?_
      refine j_iload_n E dX12_rests_32 0 rfl ?_
      refine j_iconst E (v := -1) dX12_rests_33 (by decide) ?_
      refine j_icmp_ne E 41 dX12_rests_34 (by decide) (fun c42 => ?_) (fun c42 => ?_)
      · have h := h.1 c42
        refine j_aload_n E dX12_rests_41 1 rfl ?_
        refine j_iconst E (v := 0) dX12_rests_42 (by decide) ?_
        refine j_iload_n E dX12_rests_43 0 rfl ?_
        refine j_iload_n E dX12_rests_44 0 rfl ?_
        refine j_aload_n E dX12_rests_45 1 rfl ?_
        obtain ⟨b43, eb43, kb43, lb43⟩ := sh_f hZ kv0 (j := 12) (k := 14) (m := 6) rfl
        have h := h b43 eb43
        refine j_getr E 12 12 rfl rfl (by decide) (by decide) (iw iT_12) rfl rfl (tw W_801) kv0 eb43 dX12_rests_46 ?_
        refine j_iload_n E dX12_rests_49 2 rfl ?_
        obtain ⟨o44, h⟩ := h
        refine j_iald E kb43 (by rw [lb43]; exact o44) dX12_rests_50 ?_
        refine j_iconst E (v := 0) dX12_rests_51 (by decide) ?_
        refine ju_callV E [.int (0 : Int32), .int x41, .int x41, .int (I33 b43 v1.toNatClampNeg), .int (0 : Int32)] [] (c_X12_lawOf (gL G) (gD G) (gY G) B v0 (0 : Int32) x41 x41 (I33 b43 v1.toNatClampNeg) (0 : Int32) Z I33 L34 _ hZ hb kv0 h) (gwV W_808 W_809 W_810 W_695 W_807) rfl ⟨rfl, fy_X12_lawOf⟩ ⟨Nat.le_of_ble_eq_true rfl, Nat.le_of_ble_eq_true rfl⟩ (c := 12) rfl (by decide) kv0 rfl rfl (Nat.le_of_ble_eq_true rfl) (ju_f hc hb) dX12_rests_52 (fun v45 Z46 I47 L48 q49 j50 => ?_)
        refine ju_next hc j50 ?_
        have hc := jle_trans hc j50
        obtain ⟨yZ46, hZ46, hbZ46, r51, rfl, h⟩ := q49
        have hZ := hZ46
        have hx : jext Z Z46 := jext_trans hx yZ46
        have hb := hbZ46
        have k52 := (yZ46 _ _ kv0).1
        show jJ G 5 55 [(3, .int x41), (0, .ref v0), (1, .int v1), (2, .int v2)] [.int r51] Z46 I47 L48 (jcz Z46 - jcz Z) (jsz Z46 - jsz Z)
        refine j_sub [1, 2, 3, 0] rfl ?_
        exact m_X12_rests_b55 E EU  v0 v1 v2 x41 r51 Z46 I47 L48 hZ hx hc hb k52 h
      · have h := h.2 c42
        refine j_iconst E (v := 0) dX12_rests_37 (by decide) ?_
        refine j_goto E 55 dX12_rests_38 (by decide) ?_
        refine j_sub [1, 2, 3, 0] rfl ?_
        exact m_X12_rests_b55 E EU  v0 v1 v2 x41 (0 : Int32) Z I33 L34 hZ hx hc hb kv0 h
    · have h := h.2 c38
      refine j_iconst E (v := -1) dX12_rests_23 (by decide) ?_
      exact ju_ireturn E EU hc hb ⟨hx, hZ, hb, _, rfl, h⟩ dX12_rests_24
set_option maxRecDepth 100000 in
def f_X12_returns (v0 : Nat) (v1 : Int32) (Z : jZ) (I : jI) (L : jL) (Q : Int32 → jI → jL → Prop) : Prop := (∀ I1 : jI, I1 = jpI I v0 22 (0 : Int32) → (f_X12_isOne v0 v1 Z I1 L (fun r8 I4 L5 => ((¬ r8 = 0 → (∀ b10 : Nat, jr Z v0 14 = some b10 → (vp_in v1 6 ∧ (∀ x12 : Int32, x12 = (I4 b10 v1.toNatClampNeg) → (∀ b13 : Nat, jr Z v0 14 = some b13 → (vp_in v1 6 ∧ (∀ I15 : jI, I15 = jpI I4 b13 v1.toNatClampNeg (-1 : Int32) → (∀ b16 : Nat, jr Z v0 15 = some b16 → (∀ b17 : Nat, jr Z v0 9 = some b17 → (vp_in v1 6 ∧ (vp_in v1 6 ∧ (∀ I20 : jI, I20 = jpI I15 b16 v1.toNatClampNeg (I15 b17 v1.toNatClampNeg) → Q x12 I20 L5)))))))))))) ∧ (r8 = 0 → Q (-1 : Int32) I4 L5)))))
set_option maxHeartbeats 4000000 in
set_option maxRecDepth 100000 in
theorem c_X12_returns (l : Launch) (D : va_G) (cy : jC) (v0 : Nat) (v1 : Int32) (Z : jZ) (I : jI) (L : jL) (Q : Int32 → jI → jL → Prop) (hZ : SH Z) (kv0 : jk Z v0 12) (h : f_X12_returns v0 v1 Z I L Q) : jCt l yX12_returns w_X12_returns { frames := 2, cells := 0, slots := 0, locals := 43 } D cy [.ref v0, .int v1] Z I L (rtI Z Q) := by
  refine jCt_of (cc := cX12_returns) (maxL := 3) (ret := (some .int)) (by decide +kernel) rfl (Nat.le_of_ble_eq_true rfl) ?_
  intro G eD eY eL E
  subst eD; subst eY; subst eL
  have E : jE G cX12_returns RX12 w_X12_returns 3 (some .int) { frames := 2, cells := 0, slots := 0, locals := 43 } (rtI Z Q) := E
  show jJ G 3 0 [(0, .ref v0), (1, .int v1)] [] Z I L 0 0
  refine j_aload_n E dX12_returns_0 0 rfl ?_
  refine j_iconst E (v := 0) dX12_returns_1 (by decide) ?_
  refine j_puti E 12 22 rfl rfl (by decide) (by decide) (iw iT_12) tyX12_ok nmX12 rfl rfl (tw W_690) rfl rfl rfl kv0 dX12_returns_2 ?_
  refine j_nmI (fun I1 eI1 => ?_)
  have h := h I1 eI1
  refine j_aload_n E dX12_returns_5 0 rfl ?_
  refine j_iload_n E dX12_returns_6 1 rfl ?_
  refine j_callV E [.int v1] [] (c_X12_isOne (gL G) (gD G) (gY G) v0 v1 Z I1 L _ hZ kv0 h) (gwV W_804 W_805 W_806 W_695 W_803) rfl ⟨rfl, fy_X12_isOne⟩ ⟨by decide, by decide⟩ (c := 12) rfl (by decide) kv0 rfl rfl (Nat.le_of_ble_eq_true rfl) ⟨Nat.zero_le _, Nat.zero_le _⟩ dX12_returns_7 (fun v2 Z3 I4 L5 q6 => ?_)
  obtain ⟨rfl, r8, rfl, zr8, h⟩ := q6
  show jJ G 3 10 [(0, .ref v0), (1, .int v1)] [.int r8] Z I4 L5 0 0
  refine j_if_ne E 15 dX12_returns_10 (by decide) (fun c9 => ?_) (fun c9 => ?_)
  · have h := h.1 c9
    refine j_aload_n E dX12_returns_15 0 rfl ?_
    obtain ⟨b10, eb10, kb10, lb10⟩ := sh_f hZ kv0 (j := 14) (k := 14) (m := 6) rfl
    have h := h b10 eb10
    refine j_getr E 12 14 rfl rfl (by decide) (by decide) (iw iT_12) rfl rfl (tw W_732) kv0 eb10 dX12_returns_16 ?_
    refine j_iload_n E dX12_returns_19 1 rfl ?_
    obtain ⟨o11, h⟩ := h
    refine j_iald E kb10 (by rw [lb10]; exact o11) dX12_returns_20 ?_
    refine j_topi (fun x12 ex12 => ?_)
    have h := h x12 ex12
    refine j_istore_n E 2 [(2, .int x12), (0, .ref v0), (1, .int v1)] dX12_returns_21 rfl (by decide) rfl ?_
    refine j_aload_n E dX12_returns_22 1 rfl ?_
    obtain ⟨b13, eb13, kb13, lb13⟩ := sh_f hZ kv0 (j := 14) (k := 14) (m := 6) rfl
    have h := h b13 eb13
    refine j_getr E 12 14 rfl rfl (by decide) (by decide) (iw iT_12) rfl rfl (tw W_732) kv0 eb13 dX12_returns_23 ?_
    refine j_iload_n E dX12_returns_26 2 rfl ?_
    refine j_iconst E (v := -1) dX12_returns_27 (by decide) ?_
    obtain ⟨o14, h⟩ := h
    refine j_iast E kb13 (by rw [lb13]; exact o14) dX12_returns_28 ?_
    refine j_nmI (fun I15 eI15 => ?_)
    have h := h I15 eI15
    refine j_aload_n E dX12_returns_29 1 rfl ?_
    obtain ⟨b16, eb16, kb16, lb16⟩ := sh_f hZ kv0 (j := 15) (k := 14) (m := 6) rfl
    have h := h b16 eb16
    refine j_getr E 12 15 rfl rfl (by decide) (by decide) (iw iT_12) rfl rfl (tw W_733) kv0 eb16 dX12_returns_30 ?_
    refine j_iload_n E dX12_returns_33 2 rfl ?_
    refine j_aload_n E dX12_returns_34 1 rfl ?_
    obtain ⟨b17, eb17, kb17, lb17⟩ := sh_f hZ kv0 (j := 9) (k := 14) (m := 6) rfl
    have h := h b17 eb17
    refine j_getr E 12 9 rfl rfl (by decide) (by decide) (iw iT_12) rfl rfl (tw W_734) kv0 eb17 dX12_returns_35 ?_
    refine j_iload_n E dX12_returns_38 2 rfl ?_
    obtain ⟨o18, h⟩ := h
    refine j_iald E kb17 (by rw [lb17]; exact o18) dX12_returns_39 ?_
    obtain ⟨o19, h⟩ := h
    refine j_iast E kb16 (by rw [lb16]; exact o19) dX12_returns_40 ?_
    refine j_nmI (fun I20 eI20 => ?_)
    have h := h I20 eI20
    refine j_iload_n E dX12_returns_41 0 rfl ?_
    exact j_ireturn E ⟨rfl, _, rfl, h⟩ (Nat.zero_le _) (Nat.zero_le _) dX12_returns_42
  · have h := h.2 c9
    refine j_iconst E (v := -1) dX12_returns_13 (by decide) ?_
    exact j_ireturn E ⟨rfl, _, rfl, h⟩ (Nat.zero_le _) (Nat.zero_le _) dX12_returns_14
set_option maxRecDepth 100000 in
def f_X12_earned_L18  (Z : jZ) (Q : Int32 → jI → jL → Prop) : Nat → Nat → Int32 → Int32 → Int32 → jI → jL → Prop
  | 0 => fun _ _ _ _ _ _ => False
  | n + 1 => fun v0 v1 v2 v3 I L => (((I v0 0) ≤ v3 → (∀ I2 : jI, I2 = jpI I v0 21 (0 : Int32) → (f_X12_tell v0 (v2.toInt64) Z I2 L (fun I5 L6 => (∀ b9 : Nat, jr Z v0 17 = some b9 → (vp_in v1 8 ∧ Q (I5 b9 v1.toNatClampNeg) I5 L6)))))) ∧ (¬ ((I v0 0) ≤ v3) → (∀ b11 : Nat, jr Z v0 5 = some b11 → (vp_in (((8 : Int32) * v3) + v1) 192 ∧ (∀ x13 : Int32, x13 = (v2 + (I b11 (((8 : Int32) * v3) + v1).toNatClampNeg)) → (∀ x14 : Int32, x14 = v3 + 1 → (f_X12_earned_L18 Z Q n) v0 v1 x13 x14 I L))))))
set_option maxHeartbeats 4000000 in
set_option maxRecDepth 100000 in
theorem m_X12_earned_L18 {G : jG} {Z : jZ} {Q : Int32 → jI → jL → Prop} (E : jE G cX12_earned RX12 w_X12_earned 4 (some .int) { frames := 2, cells := 0, slots := 0, locals := 42 } (rtI Z Q)) (hZ : SH Z)  : ∀ (n : Nat) (v0 : Nat) (v1 : Int32) (v2 : Int32) (v3 : Int32) (I : jI) (L : jL), jk Z v0 12 → f_X12_earned_L18  Z Q n v0 v1 v2 v3 I L → jJ G 4 18 [(0, .ref v0), (1, .int v1), (2, .int v2), (3, .int v3)] [] Z I L 0 0 := by
  intro n
  induction n with
  | zero => intro v0 v1 v2 v3 I L _ h; exact h.elim
  | succ n ih =>
    intro v0 v1 v2 v3 I L kv0 h
    have h : (((I v0 0) ≤ v3 → (∀ I2 : jI, I2 = jpI I v0 21 (0 : Int32) → (f_X12_tell v0 (v2.toInt64) Z I2 L (fun I5 L6 => (∀ b9 : Nat, jr Z v0 17 = some b9 → (vp_in v1 8 ∧ Q (I5 b9 v1.toNatClampNeg) I5 L6)))))) ∧ (¬ ((I v0 0) ≤ v3) → (∀ b11 : Nat, jr Z v0 5 = some b11 → (vp_in (((8 : Int32) * v3) + v1) 192 ∧ (∀ x13 : Int32, x13 = (v2 + (I b11 (((8 : Int32) * v3) + v1).toNatClampNeg)) → (∀ x14 : Int32, x14 = v3 + 1 → (f_X12_earned_L18 Z Q n) v0 v1 x13 x14 I L)))))) := h
    obtain ⟨K18, eK18⟩ : ∃ K : Nat → Int32 → Int32 → Int32 → jI → jL → Prop, K = f_X12_earned_L18  Z Q n := ⟨_, rfl⟩
    have hK18 := ih
    clear eK18 K18
    generalize f_X12_earned_L18  Z Q n = K18 at hK18 h
    refine j_iload_n E dX12_earned_18 3 rfl ?_
    refine j_aload_n E dX12_earned_19 0 rfl ?_
    refine j_geti E 12 0 rfl rfl (by decide) (by decide) (iw iT_12) rfl rfl (tw W_693) kv0 dX12_earned_20 ?_
    refine j_icmp_ge E 46 dX12_earned_23 (by decide) (fun c1 => ?_) (fun c1 => ?_)
    · have h := h.1 c1
      refine j_aload_n E dX12_earned_46 0 rfl ?_
      refine j_iconst E (v := 0) dX12_earned_47 (by decide) ?_
      refine j_puti E 12 21 rfl rfl (by decide) (by decide) (iw iT_12) tyX12_ok nmX12 rfl rfl (tw W_692) rfl rfl rfl kv0 dX12_earned_48 ?_
      refine j_nmI (fun I2 eI2 => ?_)
      have h := h I2 eI2
      refine j_aload_n E dX12_earned_51 0 rfl ?_
      refine j_iload_n E dX12_earned_52 2 rfl ?_
      refine j_i2l E dX12_earned_53 ?_
      refine j_callV E [.long (v2.toInt64)] [] (c_X12_tell (gL G) (gD G) (gY G) v0 (v2.toInt64) Z I2 L _ hZ kv0 h) (gwV W_820 W_821 W_822 W_695 W_819) rfl ⟨rfl, fy_X12_tell⟩ ⟨by decide, by decide⟩ (c := 12) rfl (by decide) kv0 rfl rfl (Nat.le_of_ble_eq_true rfl) ⟨Nat.zero_le _, Nat.zero_le _⟩ dX12_earned_54 (fun v3 Z4 I5 L6 q7 => ?_)
      obtain ⟨rfl, rfl, h⟩ := q7
      show jJ G 4 57 [(0, .ref v0), (1, .int v1), (2, .int v2), (3, .int v3)] [] Z I5 L6 0 0
      refine j_aload_n E dX12_earned_57 0 rfl ?_
      obtain ⟨b9, eb9, kb9, lb9⟩ := sh_f hZ kv0 (j := 17) (k := 14) (m := 8) rfl
      have h := h b9 eb9
      refine j_getr E 12 17 rfl rfl (by decide) (by decide) (iw iT_12) rfl rfl (tw W_737) kv0 eb9 dX12_earned_58 ?_
      refine j_iload_n E dX12_earned_61 1 rfl ?_
      obtain ⟨o10, h⟩ := h
      refine j_iald E kb9 (by rw [lb9]; exact o10) dX12_earned_62 ?_
      exact j_ireturn E ⟨rfl, _, rfl, h⟩ (Nat.zero_le _) (Nat.zero_le _) dX12_earned_63
    · have h := h.2 c1
      refine j_iload_n E dX12_earned_26 2 rfl ?_
      refine j_aload_n E dX12_earned_27 0 rfl ?_
      obtain ⟨b11, eb11, kb11, lb11⟩ := sh_f hZ kv0 (j := 5) (k := 14) (m := 192) rfl
      have h := h b11 eb11
      refine j_getr E 12 5 rfl rfl (by decide) (by decide) (iw iT_12) rfl rfl (tw W_699) kv0 eb11 dX12_earned_28 ?_
      refine j_bipush E (v := 8) dX12_earned_31 (by decide) ?_
      refine j_iload_n E dX12_earned_33 3 rfl ?_
      refine j_imul E dX12_earned_34 ?_
      refine j_iload_n E dX12_earned_35 1 rfl ?_
      refine j_iadd E dX12_earned_36 ?_
      obtain ⟨o12, h⟩ := h
      refine j_iald E kb11 (by rw [lb11]; exact o12) dX12_earned_37 ?_
      refine j_iadd E dX12_earned_38 ?_
      refine j_topi (fun x13 ex13 => ?_)
      have h := h x13 ex13
      refine j_istore_n E 2 [(2, .int x13), (0, .ref v0), (1, .int v1), (3, .int v3)] dX12_earned_39 rfl (by decide) rfl ?_
      obtain ⟨x14, ex14⟩ : ∃ y : Int32, y = v3 + 1 := ⟨_, rfl⟩
      have h := h x14 ex14
      refine j_iinc E x14 [(3, .int x14), (2, .int x13), (0, .ref v0), (1, .int v1)] dX12_earned_40 3 rfl (by rw [ex14]; rfl) (by decide) rfl ?_
      refine j_goto E 18 dX12_earned_43 (by decide) ?_
      refine j_sub [2, 3, 1, 0] rfl ?_
      exact hK18 v0 v1 x13 x14 I L kv0 h
set_option maxRecDepth 100000 in
def f_X12_earned (v0 : Nat) (v1 : Int32) (Z : jZ) (I : jI) (L : jL) (Q : Int32 → jI → jL → Prop) : Prop := (∀ I15 : jI, I15 = jpI I v0 22 (0 : Int32) → (f_X12_isFamily v1 Z I15 L (fun r22 I18 L19 => ((¬ r22 = 0 → (∃ m18 : Nat, f_X12_earned_L18  Z Q m18 v0 v1 (0 : Int32) (0 : Int32) I18 L19)) ∧ (r22 = 0 → Q (-1 : Int32) I18 L19)))))
set_option maxHeartbeats 4000000 in
set_option maxRecDepth 100000 in
theorem c_X12_earned (l : Launch) (D : va_G) (cy : jC) (v0 : Nat) (v1 : Int32) (Z : jZ) (I : jI) (L : jL) (Q : Int32 → jI → jL → Prop) (hZ : SH Z) (kv0 : jk Z v0 12) (h : f_X12_earned v0 v1 Z I L Q) : jCt l yX12_earned w_X12_earned { frames := 2, cells := 0, slots := 0, locals := 42 } D cy [.ref v0, .int v1] Z I L (rtI Z Q) := by
  refine jCt_of (cc := cX12_earned) (maxL := 4) (ret := (some .int)) (by decide +kernel) rfl (Nat.le_of_ble_eq_true rfl) ?_
  intro G eD eY eL E
  subst eD; subst eY; subst eL
  have E : jE G cX12_earned RX12 w_X12_earned 4 (some .int) { frames := 2, cells := 0, slots := 0, locals := 42 } (rtI Z Q) := E
  show jJ G 4 0 [(0, .ref v0), (1, .int v1)] [] Z I L 0 0
  refine j_aload_n E dX12_earned_0 0 rfl ?_
  refine j_iconst E (v := 0) dX12_earned_1 (by decide) ?_
  refine j_puti E 12 22 rfl rfl (by decide) (by decide) (iw iT_12) tyX12_ok nmX12 rfl rfl (tw W_690) rfl rfl rfl kv0 dX12_earned_2 ?_
  refine j_nmI (fun I15 eI15 => ?_)
  have h := h I15 eI15
  refine j_iload_n E dX12_earned_5 1 rfl ?_
  refine j_callS E [.int v1] [] (c_X12_isFamily (gL G) (gD G) (gY G) v1 Z I15 L _ hZ  h) (gwS W_794 W_795 W_695 W_793) rfl fy_X12_isFamily ⟨by decide, by decide⟩ rfl rfl (Nat.le_of_ble_eq_true rfl) ⟨Nat.zero_le _, Nat.zero_le _⟩ dX12_earned_6 (fun v16 Z17 I18 L19 q20 => ?_)
  obtain ⟨rfl, r22, rfl, zr22, h⟩ := q20
  show jJ G 4 9 [(0, .ref v0), (1, .int v1)] [.int r22] Z I18 L19 0 0
  refine j_if_ne E 14 dX12_earned_9 (by decide) (fun c23 => ?_) (fun c23 => ?_)
  · have h := h.1 c23
    refine j_iconst E (v := 0) dX12_earned_14 (by decide) ?_
    refine j_istore_n E 2 [(2, .int (0 : Int32)), (0, .ref v0), (1, .int v1)] dX12_earned_15 rfl (by decide) rfl ?_
    refine j_iconst E (v := 0) dX12_earned_16 (by decide) ?_
    refine j_istore_n E 3 [(3, .int (0 : Int32)), (2, .int (0 : Int32)), (0, .ref v0), (1, .int v1)] dX12_earned_17 rfl (by decide) rfl ?_
    obtain ⟨n24, h⟩ := h
    refine j_sub [2, 3, 1, 0] rfl ?_
    exact m_X12_earned_L18 E hZ  n24 v0 v1 (0 : Int32) (0 : Int32) I18 L19 kv0 h
  · have h := h.2 c23
    refine j_iconst E (v := -1) dX12_earned_12 (by decide) ?_
    exact j_ireturn E ⟨rfl, _, rfl, h⟩ (Nat.zero_le _) (Nat.zero_le _) dX12_earned_13
set_option maxRecDepth 100000 in
def f_X12_layMoves_b122 (B : Nat × Nat) (K2 : Nat → Int32 → Int32 → jZ → jI → jL → Prop) (K12 : Nat → Int32 → Int32 → Int32 → jZ → jI → jL → Prop) (Q : jZ → jI → jL → Prop) (v0 : Nat) (v1 : Int32) (v2 : Int32) (v3 : Int32) (Z : jZ) (I : jI) (L : jL) : Prop := (∀ x1 : Int32, x1 = v3 + 1 → K12 v0 v1 v2 x1 Z I L)
set_option maxHeartbeats 4000000 in
set_option maxRecDepth 100000 in
theorem m_X12_layMoves_b122 {G : jG} {B : Nat × Nat} {Z0 : jZ} {Q : jZ → jI → jL → Prop} (E : jE G cX12_layMoves RX12 w_X12_layMoves 6 none (jrm B 105 2539 Z0) jRF) (EU : jEU G B Z0 (urtV B Z0 Q)) (K2 : Nat → Int32 → Int32 → jZ → jI → jL → Prop) (hK2 : ∀ (v0 : Nat) (v1 : Int32) (v2 : Int32) (Z : jZ) (I : jI) (L : jL), SH Z → jext Z0 Z → jle Z0 Z → jin B Z → jk Z v0 12 → K2 v0 v1 v2 Z I L → jJ G 6 2 [(0, .ref v0), (1, .int v1), (2, .int v2)] [] Z I L (jcz Z - jcz Z0) (jsz Z - jsz Z0)) (K12 : Nat → Int32 → Int32 → Int32 → jZ → jI → jL → Prop) (hK12 : ∀ (v0 : Nat) (v1 : Int32) (v2 : Int32) (v3 : Int32) (Z : jZ) (I : jI) (L : jL), SH Z → jext Z0 Z → jle Z0 Z → jin B Z → jk Z v0 12 → K12 v0 v1 v2 v3 Z I L → jJ G 6 12 [(0, .ref v0), (1, .int v1), (2, .int v2), (3, .int v3)] [] Z I L (jcz Z - jcz Z0) (jsz Z - jsz Z0)) (v0 : Nat) (v1 : Int32) (v2 : Int32) (v3 : Int32) (Z : jZ) (I : jI) (L : jL) (hZ : SH Z) (hx : jext Z0 Z) (hc : jle Z0 Z) (hb : jin B Z) (kv0 : jk Z v0 12) (h : f_X12_layMoves_b122 B K2 K12 Q v0 v1 v2 v3 Z I L) : jJ G 6 122 [(0, .ref v0), (1, .int v1), (2, .int v2), (3, .int v3)] [] Z I L (jcz Z - jcz Z0) (jsz Z - jsz Z0) := by
  obtain ⟨x1, ex1⟩ : ∃ y : Int32, y = v3 + 1 := ⟨_, rfl⟩
  have h := h x1 ex1
  refine j_iinc E x1 [(3, .int x1), (0, .ref v0), (1, .int v1), (2, .int v2)] dX12_layMoves_122 3 rfl (by rw [ex1]; rfl) (by decide) rfl ?_
  refine j_goto E 12 dX12_layMoves_125 (by decide) ?_
  refine j_sub [1, 2, 3, 0] rfl ?_
  exact hK12 v0 v1 v2 x1 Z I L hZ hx hc hb kv0 h
set_option maxRecDepth 100000 in
def f_X12_layMoves_L12 (B : Nat × Nat) (K2 : Nat → Int32 → Int32 → jZ → jI → jL → Prop) (Q : jZ → jI → jL → Prop) : Nat → Nat → Int32 → Int32 → Int32 → jZ → jI → jL → Prop
  | 0 => fun _ _ _ _ _ _ _ => False
  | n + 1 => fun v0 v1 v2 v3 Z I L => (((3 : Int32) < v3 → (∀ x3 : Int32, x3 = v2 + 1 → K2 v0 v1 x3 Z I L)) ∧ (¬ ((3 : Int32) < v3) → (∀ x4 : Int32, x4 = ((((3 : Int32) * (v2 + (1 : Int32))) + v3) - (1 : Int32)) → (∀ x5 : Int32, x5 = (v2 + v3) → (∀ b6 : Nat, jr Z v0 37 = some b6 → (vp_in x4 75 ∧ (∀ I8 : jI, I8 = jpI I b6 x4.toNatClampNeg (1000000000 : Int32) → (∀ b9 : Nat, jr Z v0 11 = some b9 → (vp_in v1 6 ∧ (((I8 b9 v1.toNatClampNeg) < v3 → f_X12_layMoves_b122 B K2 (f_X12_layMoves_L12 B K2 Q n) Q v0 v1 v2 v3 Z I8 L) ∧ (¬ ((I8 b9 v1.toNatClampNeg) < v3) → (((I8 v0 0) ≤ x5 → f_X12_layMoves_b122 B K2 (f_X12_layMoves_L12 B K2 Q n) Q v0 v1 v2 v3 Z I8 L) ∧ (¬ ((I8 v0 0) ≤ x5) → ((x5 = (I8 v0 39) → f_X12_layMoves_b122 B K2 (f_X12_layMoves_L12 B K2 Q n) Q v0 v1 v2 v3 Z I8 L) ∧ (¬ (x5 = (I8 v0 39)) → (∀ b14 : Nat, jr Z v0 13 = some b14 → (vp_in v1 6 ∧ (f_X12_mainOf v0 x5 Z I8 L (fun r22 I18 L19 => (f_X12_has (I8 b14 v1.toNatClampNeg) r22 Z I18 L19 (fun r29 I25 L26 => ((r29 = 0 → (∀ b31 : Nat, jr Z v0 37 = some b31 → (f_X12_costOf B v0 v1 v2 x5 Z I25 L26 (fun r38 Z33 I34 L35 => (vp_in x4 75 ∧ (∀ I43 : jI, I43 = jpI I34 b31 x4.toNatClampNeg r38 → (∀ b44 : Nat, jr Z33 v0 38 = some b44 → (f_X12_effortOf v0 v1 v2 x5 Z33 I43 L35 (fun r51 I47 L48 => (vp_in x4 75 ∧ (∀ I53 : jI, I53 = jpI I47 b44 x4.toNatClampNeg r51 → f_X12_layMoves_b122 B K2 (f_X12_layMoves_L12 B K2 Q n) Q v0 v1 v2 v3 Z33 I53 L48))))))))))) ∧ (¬ (r29 = 0) → f_X12_layMoves_b122 B K2 (f_X12_layMoves_L12 B K2 Q n) Q v0 v1 v2 v3 Z I25 L26)))))))))))))))))))))))
set_option maxHeartbeats 4000000 in
set_option maxRecDepth 100000 in
theorem m_X12_layMoves_L12 {G : jG} {Z0 : jZ} {B : Nat × Nat} {Q : jZ → jI → jL → Prop} (E : jE G cX12_layMoves RX12 w_X12_layMoves 6 none (jrm B 105 2539 Z0) jRF) (EU : jEU G B Z0 (urtV B Z0 Q)) (K2 : Nat → Int32 → Int32 → jZ → jI → jL → Prop) (hK2 : ∀ (v0 : Nat) (v1 : Int32) (v2 : Int32) (Z : jZ) (I : jI) (L : jL), SH Z → jext Z0 Z → jle Z0 Z → jin B Z → jk Z v0 12 → K2 v0 v1 v2 Z I L → jJ G 6 2 [(0, .ref v0), (1, .int v1), (2, .int v2)] [] Z I L (jcz Z - jcz Z0) (jsz Z - jsz Z0)) : ∀ (n : Nat) (v0 : Nat) (v1 : Int32) (v2 : Int32) (v3 : Int32) (Z : jZ) (I : jI) (L : jL), SH Z → jext Z0 Z → jle Z0 Z → jin B Z → jk Z v0 12 → f_X12_layMoves_L12 B K2 Q n v0 v1 v2 v3 Z I L → jJ G 6 12 [(0, .ref v0), (1, .int v1), (2, .int v2), (3, .int v3)] [] Z I L (jcz Z - jcz Z0) (jsz Z - jsz Z0) := by
  intro n
  induction n with
  | zero => intro v0 v1 v2 v3 Z I L _ _ _ _ _ h; exact h.elim
  | succ n ih =>
    intro v0 v1 v2 v3 Z I L hZ hx hc hb kv0 h
    have h : (((3 : Int32) < v3 → (∀ x3 : Int32, x3 = v2 + 1 → K2 v0 v1 x3 Z I L)) ∧ (¬ ((3 : Int32) < v3) → (∀ x4 : Int32, x4 = ((((3 : Int32) * (v2 + (1 : Int32))) + v3) - (1 : Int32)) → (∀ x5 : Int32, x5 = (v2 + v3) → (∀ b6 : Nat, jr Z v0 37 = some b6 → (vp_in x4 75 ∧ (∀ I8 : jI, I8 = jpI I b6 x4.toNatClampNeg (1000000000 : Int32) → (∀ b9 : Nat, jr Z v0 11 = some b9 → (vp_in v1 6 ∧ (((I8 b9 v1.toNatClampNeg) < v3 → f_X12_layMoves_b122 B K2 (f_X12_layMoves_L12 B K2 Q n) Q v0 v1 v2 v3 Z I8 L) ∧ (¬ ((I8 b9 v1.toNatClampNeg) < v3) → (((I8 v0 0) ≤ x5 → f_X12_layMoves_b122 B K2 (f_X12_layMoves_L12 B K2 Q n) Q v0 v1 v2 v3 Z I8 L) ∧ (¬ ((I8 v0 0) ≤ x5) → ((x5 = (I8 v0 39) → f_X12_layMoves_b122 B K2 (f_X12_layMoves_L12 B K2 Q n) Q v0 v1 v2 v3 Z I8 L) ∧ (¬ (x5 = (I8 v0 39)) → (∀ b14 : Nat, jr Z v0 13 = some b14 → (vp_in v1 6 ∧ (f_X12_mainOf v0 x5 Z I8 L (fun r22 I18 L19 => (f_X12_has (I8 b14 v1.toNatClampNeg) r22 Z I18 L19 (fun r29 I25 L26 => ((r29 = 0 → (∀ b31 : Nat, jr Z v0 37 = some b31 → (f_X12_costOf B v0 v1 v2 x5 Z I25 L26 (fun r38 Z33 I34 L35 => (vp_in x4 75 ∧ (∀ I43 : jI, I43 = jpI I34 b31 x4.toNatClampNeg r38 → (∀ b44 : Nat, jr Z33 v0 38 = some b44 → (f_X12_effortOf v0 v1 v2 x5 Z33 I43 L35 (fun r51 I47 L48 => (vp_in x4 75 ∧ (∀ I53 : jI, I53 = jpI I47 b44 x4.toNatClampNeg r51 → f_X12_layMoves_b122 B K2 (f_X12_layMoves_L12 B K2 Q n) Q v0 v1 v2 v3 Z33 I53 L48))))))))))) ∧ (¬ (r29 = 0) → f_X12_layMoves_b122 B K2 (f_X12_layMoves_L12 B K2 Q n) Q v0 v1 v2 v3 Z I25 L26))))))))))))))))))))))) := h
    obtain ⟨K12, eK12⟩ : ∃ K : Nat → Int32 → Int32 → Int32 → jZ → jI → jL → Prop, K = f_X12_layMoves_L12 B K2 Q n := ⟨_, rfl⟩
    have hK12 := ih
    clear eK12 K12
    generalize f_X12_layMoves_L12 B K2 Q n = K12 at hK12 h
    refine j_iload_n E dX12_layMoves_12 3 rfl ?_
    refine j_iconst E (v := 3) dX12_layMoves_13 (by decide) ?_
    refine j_icmp_gt E 128 dX12_layMoves_14 (by decide) (fun c2 => ?_) (fun c2 => ?_)
    · have h := h.1 c2
      obtain ⟨x3, ex3⟩ : ∃ y : Int32, y = v2 + 1 := ⟨_, rfl⟩
      have h := h x3 ex3
      refine j_iinc E x3 [(2, .int x3), (0, .ref v0), (1, .int v1), (3, .int v3)] dX12_layMoves_128 2 rfl (by rw [ex3]; rfl) (by decide) rfl ?_
      refine j_goto E 2 dX12_layMoves_131 (by decide) ?_
      refine j_sub [1, 2, 0] rfl ?_
      exact hK2 v0 v1 x3 Z I L hZ hx hc hb kv0 h
    · have h := h.2 c2
      refine j_iconst E (v := 3) dX12_layMoves_17 (by decide) ?_
      refine j_iload_n E dX12_layMoves_18 2 rfl ?_
      refine j_iconst E (v := 1) dX12_layMoves_19 (by decide) ?_
      refine j_iadd E dX12_layMoves_20 ?_
      refine j_imul E dX12_layMoves_21 ?_
      refine j_iload_n E dX12_layMoves_22 3 rfl ?_
      refine j_iadd E dX12_layMoves_23 ?_
      refine j_iconst E (v := 1) dX12_layMoves_24 (by decide) ?_
      refine j_isub E dX12_layMoves_25 ?_
      refine j_topi (fun x4 ex4 => ?_)
      have h := h x4 ex4
      refine j_istore E 4 [(4, .int x4), (0, .ref v0), (1, .int v1), (2, .int v2), (3, .int v3)] dX12_layMoves_26 (by decide) rfl ?_
      refine j_iload_n E dX12_layMoves_28 3 rfl ?_
      refine j_iload_n E dX12_layMoves_29 4 rfl ?_
      refine j_iadd E dX12_layMoves_30 ?_
      refine j_topi (fun x5 ex5 => ?_)
      have h := h x5 ex5
      refine j_istore E 5 [(5, .int x5), (4, .int x4), (0, .ref v0), (1, .int v1), (2, .int v2), (3, .int v3)] dX12_layMoves_31 (by decide) rfl ?_
      refine j_aload_n E dX12_layMoves_33 2 rfl ?_
      obtain ⟨b6, eb6, kb6, lb6⟩ := sh_f hZ kv0 (j := 37) (k := 14) (m := 75) rfl
      have h := h b6 eb6
      refine j_getr E 12 37 rfl rfl (by decide) (by decide) (iw iT_12) rfl rfl (tw W_842) kv0 eb6 dX12_layMoves_34 ?_
      refine j_iload E dX12_layMoves_37 1 rfl ?_
      refine j_ldcw E (tw W_843) dX12_layMoves_39 ?_
      obtain ⟨o7, h⟩ := h
      refine j_iast E kb6 (by rw [lb6]; exact o7) dX12_layMoves_42 ?_
      refine j_nmI (fun I8 eI8 => ?_)
      have h := h I8 eI8
      refine j_iload_n E dX12_layMoves_43 5 rfl ?_
      refine j_aload_n E dX12_layMoves_44 2 rfl ?_
      obtain ⟨b9, eb9, kb9, lb9⟩ := sh_f hZ kv0 (j := 11) (k := 14) (m := 6) rfl
      have h := h b9 eb9
      refine j_getr E 12 11 rfl rfl (by decide) (by decide) (iw iT_12) rfl rfl (tw W_800) kv0 eb9 dX12_layMoves_45 ?_
      refine j_iload_n E dX12_layMoves_48 3 rfl ?_
      obtain ⟨o10, h⟩ := h
      refine j_iald E kb9 (by rw [lb9]; exact o10) dX12_layMoves_49 ?_
      refine j_icmp_gt E 122 dX12_layMoves_50 (by decide) (fun c11 => ?_) (fun c11 => ?_)
      · have h := h.1 c11
        refine j_sub [2, 3, 4, 5] rfl ?_
        exact m_X12_layMoves_b122 E EU K2 hK2 K12 hK12 v0 v1 v2 v3 Z I8 L hZ hx hc hb kv0 h
      · have h := h.2 c11
        refine j_iload E dX12_layMoves_53 0 rfl ?_
        refine j_aload_n E dX12_layMoves_55 2 rfl ?_
        refine j_geti E 12 0 rfl rfl (by decide) (by decide) (iw iT_12) rfl rfl (tw W_693) kv0 dX12_layMoves_56 ?_
        refine j_icmp_ge E 122 dX12_layMoves_59 (by decide) (fun c12 => ?_) (fun c12 => ?_)
        · have h := h.1 c12
          refine j_sub [2, 3, 4, 5] rfl ?_
          exact m_X12_layMoves_b122 E EU K2 hK2 K12 hK12 v0 v1 v2 v3 Z I8 L hZ hx hc hb kv0 h
        · have h := h.2 c12
          refine j_iload E dX12_layMoves_62 0 rfl ?_
          refine j_aload_n E dX12_layMoves_64 2 rfl ?_
          refine j_geti E 12 39 rfl rfl (by decide) (by decide) (iw iT_12) rfl rfl (tw W_844) kv0 dX12_layMoves_65 ?_
          refine j_icmp_eq E 122 dX12_layMoves_68 (by decide) (fun c13 => ?_) (fun c13 => ?_)
          · have h := h.1 c13
            refine j_sub [2, 3, 4, 5] rfl ?_
            exact m_X12_layMoves_b122 E EU K2 hK2 K12 hK12 v0 v1 v2 v3 Z I8 L hZ hx hc hb kv0 h
          · have h := h.2 c13
            refine j_aload_n E dX12_layMoves_71 2 rfl ?_
            obtain ⟨b14, eb14, kb14, lb14⟩ := sh_f hZ kv0 (j := 13) (k := 14) (m := 6) rfl
            have h := h b14 eb14
            refine j_getr E 12 13 rfl rfl (by decide) (by decide) (iw iT_12) rfl rfl (tw W_802) kv0 eb14 dX12_layMoves_72 ?_
            refine j_iload_n E dX12_layMoves_75 3 rfl ?_
            obtain ⟨o15, h⟩ := h
            refine j_iald E kb14 (by rw [lb14]; exact o15) dX12_layMoves_76 ?_
            refine j_aload_n E dX12_layMoves_77 2 rfl ?_
            refine j_iload E dX12_layMoves_78 0 rfl ?_
            refine j_callV E [.int x5] [.int (I8 b14 v1.toNatClampNeg)] (c_X12_mainOf (gL G) (gD G) (gY G) v0 x5 Z I8 L _ hZ kv0 h) (gwV W_757 W_758 W_759 W_695 W_756) rfl ⟨rfl, fy_X12_mainOf⟩ ⟨Nat.le_of_ble_eq_true rfl, Nat.le_of_ble_eq_true rfl⟩ (c := 12) rfl (by decide) kv0 rfl rfl (Nat.le_of_ble_eq_true rfl) (ju_kn hb) dX12_layMoves_80 (fun v16 Z17 I18 L19 q20 => ?_)
            obtain ⟨rfl, r22, rfl, h⟩ := q20
            show jJ G 6 83 [(5, .int x5), (4, .int x4), (0, .ref v0), (1, .int v1), (2, .int v2), (3, .int v3)] [.int r22, .int (I8 b14 v1.toNatClampNeg)] Z I18 L19 (jcz Z - jcz Z0) (jsz Z - jsz Z0)
            refine j_callS E [.int (I8 b14 v1.toNatClampNeg), .int r22] [] (c_X12_has (gL G) (gD G) (gY G) (I8 b14 v1.toNatClampNeg) r22 Z I18 L19 _ hZ  h) (gwS W_840 W_841 W_695 W_839) rfl fy_X12_has ⟨Nat.le_of_ble_eq_true rfl, Nat.le_of_ble_eq_true rfl⟩ rfl rfl (Nat.le_of_ble_eq_true rfl) (ju_kn hb) dX12_layMoves_83 (fun v23 Z24 I25 L26 q27 => ?_)
            obtain ⟨rfl, r29, rfl, zr29, h⟩ := q27
            show jJ G 6 86 [(5, .int x5), (4, .int x4), (0, .ref v0), (1, .int v1), (2, .int v2), (3, .int v3)] [.int r29] Z I25 L26 (jcz Z - jcz Z0) (jsz Z - jsz Z0)
            refine j_if_eq E 92 dX12_layMoves_86 (by decide) (fun c30 => ?_) (fun c30 => ?_)
            · have h := h.1 c30
              refine j_aload_n E dX12_layMoves_92 2 rfl ?_
              obtain ⟨b31, eb31, kb31, lb31⟩ := sh_f hZ kv0 (j := 37) (k := 14) (m := 75) rfl
              have h := h b31 eb31
              refine j_getr E 12 37 rfl rfl (by decide) (by decide) (iw iT_12) rfl rfl (tw W_842) kv0 eb31 dX12_layMoves_93 ?_
              refine j_iload E dX12_layMoves_96 1 rfl ?_
              refine j_aload_n E dX12_layMoves_98 2 rfl ?_
              refine j_iload_n E dX12_layMoves_99 3 rfl ?_
              refine j_iload_n E dX12_layMoves_100 4 rfl ?_
              refine j_iload E dX12_layMoves_101 0 rfl ?_
              refine ju_callV E [.int v1, .int v2, .int x5] [.int x4, .ref b31] (c_X12_costOf (gL G) (gD G) (gY G) B v0 v1 v2 x5 Z I25 L26 _ hZ hb kv0 h) (gwV W_824 W_825 W_826 W_695 W_823) rfl ⟨rfl, fy_X12_costOf⟩ ⟨Nat.le_of_ble_eq_true rfl, Nat.le_of_ble_eq_true rfl⟩ (c := 12) rfl (by decide) kv0 rfl rfl (Nat.le_of_ble_eq_true rfl) (ju_f hc hb) dX12_layMoves_103 (fun v32 Z33 I34 L35 q36 j37 => ?_)
              refine ju_next hc j37 ?_
              have hc := jle_trans hc j37
              obtain ⟨yZ33, hZ33, hbZ33, r38, rfl, h⟩ := q36
              have hZ := hZ33
              have hx : jext Z0 Z33 := jext_trans hx yZ33
              have hb := hbZ33
              have k39 := (yZ33 _ _ kv0).1
              have k40 := (yZ33 _ _ kb31).1
              have l41 := (yZ33 _ _ kb31).2.trans lb31
              show jJ G 6 106 [(5, .int x5), (4, .int x4), (0, .ref v0), (1, .int v1), (2, .int v2), (3, .int v3)] [.int r38, .int x4, .ref b31] Z33 I34 L35 (jcz Z33 - jcz Z0) (jsz Z33 - jsz Z0)
              obtain ⟨o42, h⟩ := h
              refine j_iast E k40 (by rw [l41]; exact o42) dX12_layMoves_106 ?_
              refine j_nmI (fun I43 eI43 => ?_)
              have h := h I43 eI43
              refine j_aload_n E dX12_layMoves_107 2 rfl ?_
              obtain ⟨b44, eb44, kb44, lb44⟩ := sh_f hZ k39 (j := 38) (k := 14) (m := 75) rfl
              have h := h b44 eb44
              refine j_getr E 12 38 rfl rfl (by decide) (by decide) (iw iT_12) rfl rfl (tw W_845) k39 eb44 dX12_layMoves_108 ?_
              refine j_iload E dX12_layMoves_111 1 rfl ?_
              refine j_aload_n E dX12_layMoves_113 2 rfl ?_
              refine j_iload_n E dX12_layMoves_114 3 rfl ?_
              refine j_iload_n E dX12_layMoves_115 4 rfl ?_
              refine j_iload E dX12_layMoves_116 0 rfl ?_
              refine j_callV E [.int v1, .int v2, .int x5] [.int x4, .ref b44] (c_X12_effortOf (gL G) (gD G) (gY G) v0 v1 v2 x5 Z33 I43 L35 _ hZ k39 h) (gwV W_816 W_817 W_818 W_695 W_815) rfl ⟨rfl, fy_X12_effortOf⟩ ⟨Nat.le_of_ble_eq_true rfl, Nat.le_of_ble_eq_true rfl⟩ (c := 12) rfl (by decide) k39 rfl rfl (Nat.le_of_ble_eq_true rfl) (ju_kn hb) dX12_layMoves_118 (fun v45 Z46 I47 L48 q49 => ?_)
              obtain ⟨rfl, r51, rfl, h⟩ := q49
              show jJ G 6 121 [(5, .int x5), (4, .int x4), (0, .ref v0), (1, .int v1), (2, .int v2), (3, .int v3)] [.int r51, .int x4, .ref b44] Z33 I47 L48 (jcz Z33 - jcz Z0) (jsz Z33 - jsz Z0)
              obtain ⟨o52, h⟩ := h
              refine j_iast E kb44 (by rw [lb44]; exact o52) dX12_layMoves_121 ?_
              refine j_nmI (fun I53 eI53 => ?_)
              have h := h I53 eI53
              refine j_sub [2, 3, 4, 5] rfl ?_
              exact m_X12_layMoves_b122 E EU K2 hK2 K12 hK12 v0 v1 v2 v3 Z33 I53 L48 hZ hx hc hb k39 h
            · have h := h.2 c30
              refine j_goto E 122 dX12_layMoves_89 (by decide) ?_
              refine j_sub [2, 3, 4, 5] rfl ?_
              exact m_X12_layMoves_b122 E EU K2 hK2 K12 hK12 v0 v1 v2 v3 Z I25 L26 hZ hx hc hb kv0 h
set_option maxRecDepth 100000 in
def f_X12_layMoves_L2 (B : Nat × Nat)  (Q : jZ → jI → jL → Prop) : Nat → Nat → Int32 → Int32 → jZ → jI → jL → Prop
  | 0 => fun _ _ _ _ _ _ => False
  | n + 1 => fun v0 v1 v2 Z I L => (((I v0 0) ≤ v2 → Q Z I L) ∧ (¬ ((I v0 0) ≤ v2) → (∃ m12 : Nat, f_X12_layMoves_L12 B (f_X12_layMoves_L2 B Q n) Q m12 v0 v1 v2 (1 : Int32) Z I L)))
set_option maxHeartbeats 4000000 in
set_option maxRecDepth 100000 in
theorem m_X12_layMoves_L2 {G : jG} {Z0 : jZ} {B : Nat × Nat} {Q : jZ → jI → jL → Prop} (E : jE G cX12_layMoves RX12 w_X12_layMoves 6 none (jrm B 105 2539 Z0) jRF) (EU : jEU G B Z0 (urtV B Z0 Q))  : ∀ (n : Nat) (v0 : Nat) (v1 : Int32) (v2 : Int32) (Z : jZ) (I : jI) (L : jL), SH Z → jext Z0 Z → jle Z0 Z → jin B Z → jk Z v0 12 → f_X12_layMoves_L2 B  Q n v0 v1 v2 Z I L → jJ G 6 2 [(0, .ref v0), (1, .int v1), (2, .int v2)] [] Z I L (jcz Z - jcz Z0) (jsz Z - jsz Z0) := by
  intro n
  induction n with
  | zero => intro v0 v1 v2 Z I L _ _ _ _ _ h; exact h.elim
  | succ n ih =>
    intro v0 v1 v2 Z I L hZ hx hc hb kv0 h
    have h : (((I v0 0) ≤ v2 → Q Z I L) ∧ (¬ ((I v0 0) ≤ v2) → (∃ m12 : Nat, f_X12_layMoves_L12 B (f_X12_layMoves_L2 B Q n) Q m12 v0 v1 v2 (1 : Int32) Z I L))) := h
    obtain ⟨K2, eK2⟩ : ∃ K : Nat → Int32 → Int32 → jZ → jI → jL → Prop, K = f_X12_layMoves_L2 B  Q n := ⟨_, rfl⟩
    have hK2 := ih
    clear eK2 K2
    generalize f_X12_layMoves_L2 B  Q n = K2 at hK2 h
    refine j_iload_n E dX12_layMoves_2 2 rfl ?_
    refine j_aload_n E dX12_layMoves_3 0 rfl ?_
    refine j_geti E 12 0 rfl rfl (by decide) (by decide) (iw iT_12) rfl rfl (tw W_693) kv0 dX12_layMoves_4 ?_
    refine j_icmp_ge E 134 dX12_layMoves_7 (by decide) (fun c54 => ?_) (fun c54 => ?_)
    · have h := h.1 c54
      exact ju_return E EU hc hb ⟨hx, hZ, hb, rfl, h⟩ dX12_layMoves_134
    · have h := h.2 c54
      refine j_iconst E (v := 1) dX12_layMoves_10 (by decide) ?_
      refine j_istore_n E 3 [(3, .int (1 : Int32)), (0, .ref v0), (1, .int v1), (2, .int v2)] dX12_layMoves_11 rfl (by decide) rfl ?_
      obtain ⟨n55, h⟩ := h
      refine j_sub [1, 2, 3, 0] rfl ?_
      exact m_X12_layMoves_L12 E EU K2 hK2 n55 v0 v1 v2 (1 : Int32) Z I L hZ hx hc hb kv0 h
set_option maxRecDepth 100000 in
def f_X12_layMoves (B : Nat × Nat) (v0 : Nat) (v1 : Int32) (Z : jZ) (I : jI) (L : jL) (Q : jZ → jI → jL → Prop) : Prop := (∃ m2 : Nat, f_X12_layMoves_L2 B  Q m2 v0 v1 (-1 : Int32) Z I L)
set_option maxHeartbeats 4000000 in
set_option maxRecDepth 100000 in
theorem c_X12_layMoves (l : Launch) (D : va_G) (cy : jC) (B : Nat × Nat) (v0 : Nat) (v1 : Int32) (Z : jZ) (I : jI) (L : jL) (Q : jZ → jI → jL → Prop) (hZ : SH Z) (hb : jin B Z) (kv0 : jk Z v0 12) (h : f_X12_layMoves B v0 v1 Z I L Q) : jCtU l yX12_layMoves w_X12_layMoves B 105 2539 D cy [.ref v0, .int v1] Z I L (urtV B Z Q) := by
  refine jCtU_of (cc := cX12_layMoves) (maxL := 6) (ret := none) (by decide +kernel) rfl (Nat.le_of_ble_eq_true rfl) ?_
  intro G eD eY eL E EU
  subst eD; subst eY; subst eL
  have E : jE G cX12_layMoves RX12 w_X12_layMoves 6 none (jrm B 105 2539 Z) jRF := E
  have hx : jext Z Z := jext_rfl
  have hc : jle Z Z := jle_rfl
  show jJ G 6 0 [(0, .ref v0), (1, .int v1)] [] Z I L (jcz Z - jcz Z) (jsz Z - jsz Z)
  refine j_iconst E (v := -1) dX12_layMoves_0 (by decide) ?_
  refine j_istore_n E 2 [(2, .int (-1 : Int32)), (0, .ref v0), (1, .int v1)] dX12_layMoves_1 rfl (by decide) rfl ?_
  obtain ⟨n56, h⟩ := h
  refine j_sub [1, 2, 0] rfl ?_
  exact m_X12_layMoves_L2 E EU  n56 v0 v1 (-1 : Int32) Z I L hZ hx hc hb kv0 h
set_option maxRecDepth 100000 in
def f_X12_findByEffort_b147 (K7 : Nat → Int32 → Int32 → jI → jL → Prop) (K14 : Nat → Int32 → Int32 → Int32 → jI → jL → Prop) (K45 : Nat → Int32 → Int32 → Int32 → Int32 → Int32 → jI → jL → Prop) (Z : jZ) (Q : jI → jL → Prop) (v0 : Nat) (v1 : Int32) (v2 : Int32) (v3 : Int32) (v4 : Int32) (v5 : Int32) (I : jI) (L : jL) : Prop := (∀ x1 : Int32, x1 = v5 + 1 → K45 v0 v1 v2 v3 v4 x1 I L)
set_option maxHeartbeats 4000000 in
set_option maxRecDepth 100000 in
theorem m_X12_findByEffort_b147 {G : jG} {Z : jZ} {Q : jI → jL → Prop} (E : jE G cX12_findByEffort RX12 w_X12_findByEffort 8 none { frames := 1, cells := 0, slots := 0, locals := 23 } (rtV Z Q)) (hZ : SH Z) (K7 : Nat → Int32 → Int32 → jI → jL → Prop) (hK7 : ∀ (v0 : Nat) (v1 : Int32) (v2 : Int32) (I : jI) (L : jL), jk Z v0 12 → K7 v0 v1 v2 I L → jJ G 8 7 [(0, .ref v0), (1, .int v1), (2, .int v2)] [] Z I L 0 0) (K14 : Nat → Int32 → Int32 → Int32 → jI → jL → Prop) (hK14 : ∀ (v0 : Nat) (v1 : Int32) (v2 : Int32) (v3 : Int32) (I : jI) (L : jL), jk Z v0 12 → K14 v0 v1 v2 v3 I L → jJ G 8 14 [(0, .ref v0), (1, .int v1), (2, .int v2), (3, .int v3)] [] Z I L 0 0) (K45 : Nat → Int32 → Int32 → Int32 → Int32 → Int32 → jI → jL → Prop) (hK45 : ∀ (v0 : Nat) (v1 : Int32) (v2 : Int32) (v3 : Int32) (v4 : Int32) (v5 : Int32) (I : jI) (L : jL), jk Z v0 12 → K45 v0 v1 v2 v3 v4 v5 I L → jJ G 8 45 [(0, .ref v0), (1, .int v1), (2, .int v2), (3, .int v3), (4, .int v4), (5, .int v5)] [] Z I L 0 0) (v0 : Nat) (v1 : Int32) (v2 : Int32) (v3 : Int32) (v4 : Int32) (v5 : Int32) (I : jI) (L : jL) (kv0 : jk Z v0 12) (h : f_X12_findByEffort_b147 K7 K14 K45 Z Q v0 v1 v2 v3 v4 v5 I L) : jJ G 8 147 [(0, .ref v0), (1, .int v1), (2, .int v2), (3, .int v3), (4, .int v4), (5, .int v5)] [] Z I L 0 0 := by
  obtain ⟨x1, ex1⟩ : ∃ y : Int32, y = v5 + 1 := ⟨_, rfl⟩
  have h := h x1 ex1
  refine j_iinc E x1 [(5, .int x1), (0, .ref v0), (1, .int v1), (2, .int v2), (3, .int v3), (4, .int v4)] dX12_findByEffort_147 5 rfl (by rw [ex1]; rfl) (by decide) rfl ?_
  refine j_goto E 45 dX12_findByEffort_150 (by decide) ?_
  refine j_sub [1, 2, 3, 4, 5, 0] rfl ?_
  exact hK45 v0 v1 v2 v3 v4 x1 I L kv0 h
set_option maxRecDepth 100000 in
def f_X12_findByEffort_L45 (K7 : Nat → Int32 → Int32 → jI → jL → Prop) (K14 : Nat → Int32 → Int32 → Int32 → jI → jL → Prop) (Z : jZ) (Q : jI → jL → Prop) : Nat → Nat → Int32 → Int32 → Int32 → Int32 → Int32 → jI → jL → Prop
  | 0 => fun _ _ _ _ _ _ _ _ => False
  | n + 1 => fun v0 v1 v2 v3 v4 v5 I L => (((3 : Int32) < v5 → (∀ b3 : Nat, jr Z v0 40 = some b3 → (vp_in (((1000 : Int32) * (v2 + (1 : Int32))) + v3) 25000 ∧ (∀ I5 : jI, I5 = jpI I b3 (((1000 : Int32) * (v2 + (1 : Int32))) + v3).toNatClampNeg v4 → (∀ x6 : Int32, x6 = v3 + 1 → K14 v0 v1 v2 x6 I5 L))))) ∧ (¬ ((3 : Int32) < v5) → (∀ x7 : Int32, x7 = ((((3 : Int32) * (v2 + (1 : Int32))) + v5) - (1 : Int32)) → (∀ b8 : Nat, jr Z v0 37 = some b8 → (vp_in x7 75 ∧ (((I b8 x7.toNatClampNeg) = (1000000000 : Int32) → f_X12_findByEffort_b147 K7 K14 (f_X12_findByEffort_L45 K7 K14 Z Q n) Z Q v0 v1 v2 v3 v4 v5 I L) ∧ (¬ ((I b8 x7.toNatClampNeg) = (1000000000 : Int32)) → (∀ b11 : Nat, jr Z v0 38 = some b11 → (vp_in x7 75 ∧ (((I b11 x7.toNatClampNeg) ≤ v3 → (∀ b14 : Nat, jr Z v0 40 = some b14 → (∀ b15 : Nat, jr Z v0 38 = some b15 → (vp_in x7 75 ∧ (vp_in ((((1000 : Int32) * ((v2 + v5) + (1 : Int32))) + v3) - (I b15 x7.toNatClampNeg)) 25000 ∧ (∀ x18 : Int32, x18 = (I b14 ((((1000 : Int32) * ((v2 + v5) + (1 : Int32))) + v3) - (I b15 x7.toNatClampNeg)).toNatClampNeg) → ((x18 = (1000000000 : Int32) → f_X12_findByEffort_b147 K7 K14 (f_X12_findByEffort_L45 K7 K14 Z Q n) Z Q v0 v1 v2 v3 v4 v5 I L) ∧ (¬ (x18 = (1000000000 : Int32)) → (∀ b20 : Nat, jr Z v0 37 = some b20 → (vp_in x7 75 ∧ (∀ x22 : Int32, x22 = (if ((x18 + ((100 : Int32) * (I b20 x7.toNatClampNeg))) + (1 : Int32)) < v4 then ((x18 + ((100 : Int32) * (I b20 x7.toNatClampNeg))) + (1 : Int32)) else v4) → f_X12_findByEffort_b147 K7 K14 (f_X12_findByEffort_L45 K7 K14 Z Q n) Z Q v0 v1 v2 v3 x22 v5 I L))))))))))) ∧ (¬ ((I b11 x7.toNatClampNeg) ≤ v3) → f_X12_findByEffort_b147 K7 K14 (f_X12_findByEffort_L45 K7 K14 Z Q n) Z Q v0 v1 v2 v3 v4 v5 I L)))))))))))
set_option maxHeartbeats 4000000 in
set_option maxRecDepth 100000 in
theorem m_X12_findByEffort_L45 {G : jG} {Z : jZ} {Q : jI → jL → Prop} (E : jE G cX12_findByEffort RX12 w_X12_findByEffort 8 none { frames := 1, cells := 0, slots := 0, locals := 23 } (rtV Z Q)) (hZ : SH Z) (K7 : Nat → Int32 → Int32 → jI → jL → Prop) (hK7 : ∀ (v0 : Nat) (v1 : Int32) (v2 : Int32) (I : jI) (L : jL), jk Z v0 12 → K7 v0 v1 v2 I L → jJ G 8 7 [(0, .ref v0), (1, .int v1), (2, .int v2)] [] Z I L 0 0) (K14 : Nat → Int32 → Int32 → Int32 → jI → jL → Prop) (hK14 : ∀ (v0 : Nat) (v1 : Int32) (v2 : Int32) (v3 : Int32) (I : jI) (L : jL), jk Z v0 12 → K14 v0 v1 v2 v3 I L → jJ G 8 14 [(0, .ref v0), (1, .int v1), (2, .int v2), (3, .int v3)] [] Z I L 0 0) : ∀ (n : Nat) (v0 : Nat) (v1 : Int32) (v2 : Int32) (v3 : Int32) (v4 : Int32) (v5 : Int32) (I : jI) (L : jL), jk Z v0 12 → f_X12_findByEffort_L45 K7 K14 Z Q n v0 v1 v2 v3 v4 v5 I L → jJ G 8 45 [(0, .ref v0), (1, .int v1), (2, .int v2), (3, .int v3), (4, .int v4), (5, .int v5)] [] Z I L 0 0 := by
  intro n
  induction n with
  | zero => intro v0 v1 v2 v3 v4 v5 I L _ h; exact h.elim
  | succ n ih =>
    intro v0 v1 v2 v3 v4 v5 I L kv0 h
    have h : (((3 : Int32) < v5 → (∀ b3 : Nat, jr Z v0 40 = some b3 → (vp_in (((1000 : Int32) * (v2 + (1 : Int32))) + v3) 25000 ∧ (∀ I5 : jI, I5 = jpI I b3 (((1000 : Int32) * (v2 + (1 : Int32))) + v3).toNatClampNeg v4 → (∀ x6 : Int32, x6 = v3 + 1 → K14 v0 v1 v2 x6 I5 L))))) ∧ (¬ ((3 : Int32) < v5) → (∀ x7 : Int32, x7 = ((((3 : Int32) * (v2 + (1 : Int32))) + v5) - (1 : Int32)) → (∀ b8 : Nat, jr Z v0 37 = some b8 → (vp_in x7 75 ∧ (((I b8 x7.toNatClampNeg) = (1000000000 : Int32) → f_X12_findByEffort_b147 K7 K14 (f_X12_findByEffort_L45 K7 K14 Z Q n) Z Q v0 v1 v2 v3 v4 v5 I L) ∧ (¬ ((I b8 x7.toNatClampNeg) = (1000000000 : Int32)) → (∀ b11 : Nat, jr Z v0 38 = some b11 → (vp_in x7 75 ∧ (((I b11 x7.toNatClampNeg) ≤ v3 → (∀ b14 : Nat, jr Z v0 40 = some b14 → (∀ b15 : Nat, jr Z v0 38 = some b15 → (vp_in x7 75 ∧ (vp_in ((((1000 : Int32) * ((v2 + v5) + (1 : Int32))) + v3) - (I b15 x7.toNatClampNeg)) 25000 ∧ (∀ x18 : Int32, x18 = (I b14 ((((1000 : Int32) * ((v2 + v5) + (1 : Int32))) + v3) - (I b15 x7.toNatClampNeg)).toNatClampNeg) → ((x18 = (1000000000 : Int32) → f_X12_findByEffort_b147 K7 K14 (f_X12_findByEffort_L45 K7 K14 Z Q n) Z Q v0 v1 v2 v3 v4 v5 I L) ∧ (¬ (x18 = (1000000000 : Int32)) → (∀ b20 : Nat, jr Z v0 37 = some b20 → (vp_in x7 75 ∧ (∀ x22 : Int32, x22 = (if ((x18 + ((100 : Int32) * (I b20 x7.toNatClampNeg))) + (1 : Int32)) < v4 then ((x18 + ((100 : Int32) * (I b20 x7.toNatClampNeg))) + (1 : Int32)) else v4) → f_X12_findByEffort_b147 K7 K14 (f_X12_findByEffort_L45 K7 K14 Z Q n) Z Q v0 v1 v2 v3 x22 v5 I L))))))))))) ∧ (¬ ((I b11 x7.toNatClampNeg) ≤ v3) → f_X12_findByEffort_b147 K7 K14 (f_X12_findByEffort_L45 K7 K14 Z Q n) Z Q v0 v1 v2 v3 v4 v5 I L))))))))))) := h
    obtain ⟨K45, eK45⟩ : ∃ K : Nat → Int32 → Int32 → Int32 → Int32 → Int32 → jI → jL → Prop, K = f_X12_findByEffort_L45 K7 K14 Z Q n := ⟨_, rfl⟩
    have hK45 := ih
    clear eK45 K45
    generalize f_X12_findByEffort_L45 K7 K14 Z Q n = K45 at hK45 h
    refine j_iload E dX12_findByEffort_45 5 rfl ?_
    refine j_iconst E (v := 3) dX12_findByEffort_47 (by decide) ?_
    refine j_icmp_gt E 153 dX12_findByEffort_48 (by decide) (fun c2 => ?_) (fun c2 => ?_)
    · have h := h.1 c2
      refine j_aload_n E dX12_findByEffort_153 0 rfl ?_
      obtain ⟨b3, eb3, kb3, lb3⟩ := sh_f hZ kv0 (j := 40) (k := 14) (m := 25000) rfl
      have h := h b3 eb3
      refine j_getr E 12 40 rfl rfl (by decide) (by decide) (iw iT_12) rfl rfl (tw W_846) kv0 eb3 dX12_findByEffort_154 ?_
      refine j_sipush E (v := 1000) dX12_findByEffort_157 (by decide) ?_
      refine j_iload_n E dX12_findByEffort_160 2 rfl ?_
      refine j_iconst E (v := 1) dX12_findByEffort_161 (by decide) ?_
      refine j_iadd E dX12_findByEffort_162 ?_
      refine j_imul E dX12_findByEffort_163 ?_
      refine j_iload_n E dX12_findByEffort_164 3 rfl ?_
      refine j_iadd E dX12_findByEffort_165 ?_
      refine j_iload E dX12_findByEffort_166 4 rfl ?_
      obtain ⟨o4, h⟩ := h
      refine j_iast E kb3 (by rw [lb3]; exact o4) dX12_findByEffort_168 ?_
      refine j_nmI (fun I5 eI5 => ?_)
      have h := h I5 eI5
      obtain ⟨x6, ex6⟩ : ∃ y : Int32, y = v3 + 1 := ⟨_, rfl⟩
      have h := h x6 ex6
      refine j_iinc E x6 [(3, .int x6), (0, .ref v0), (1, .int v1), (2, .int v2), (4, .int v4), (5, .int v5)] dX12_findByEffort_169 3 rfl (by rw [ex6]; rfl) (by decide) rfl ?_
      refine j_goto E 14 dX12_findByEffort_172 (by decide) ?_
      refine j_sub [1, 2, 3, 0] rfl ?_
      exact hK14 v0 v1 v2 x6 I5 L kv0 h
    · have h := h.2 c2
      refine j_iconst E (v := 3) dX12_findByEffort_51 (by decide) ?_
      refine j_iload_n E dX12_findByEffort_52 2 rfl ?_
      refine j_iconst E (v := 1) dX12_findByEffort_53 (by decide) ?_
      refine j_iadd E dX12_findByEffort_54 ?_
      refine j_imul E dX12_findByEffort_55 ?_
      refine j_iload E dX12_findByEffort_56 5 rfl ?_
      refine j_iadd E dX12_findByEffort_58 ?_
      refine j_iconst E (v := 1) dX12_findByEffort_59 (by decide) ?_
      refine j_isub E dX12_findByEffort_60 ?_
      refine j_topi (fun x7 ex7 => ?_)
      have h := h x7 ex7
      refine j_istore E 6 [(6, .int x7), (0, .ref v0), (1, .int v1), (2, .int v2), (3, .int v3), (4, .int v4), (5, .int v5)] dX12_findByEffort_61 (by decide) rfl ?_
      refine j_aload_n E dX12_findByEffort_63 1 rfl ?_
      obtain ⟨b8, eb8, kb8, lb8⟩ := sh_f hZ kv0 (j := 37) (k := 14) (m := 75) rfl
      have h := h b8 eb8
      refine j_getr E 12 37 rfl rfl (by decide) (by decide) (iw iT_12) rfl rfl (tw W_842) kv0 eb8 dX12_findByEffort_64 ?_
      refine j_iload E dX12_findByEffort_67 0 rfl ?_
      obtain ⟨o9, h⟩ := h
      refine j_iald E kb8 (by rw [lb8]; exact o9) dX12_findByEffort_69 ?_
      refine j_ldcw E (tw W_843) dX12_findByEffort_70 ?_
      refine j_icmp_eq E 147 dX12_findByEffort_73 (by decide) (fun c10 => ?_) (fun c10 => ?_)
      · have h := h.1 c10
        refine j_sub [1, 2, 3, 4, 5, 6] rfl ?_
        exact m_X12_findByEffort_b147 E hZ K7 hK7 K14 hK14 K45 hK45 v0 v1 v2 v3 v4 v5 I L kv0 h
      · have h := h.2 c10
        refine j_aload_n E dX12_findByEffort_76 1 rfl ?_
        obtain ⟨b11, eb11, kb11, lb11⟩ := sh_f hZ kv0 (j := 38) (k := 14) (m := 75) rfl
        have h := h b11 eb11
        refine j_getr E 12 38 rfl rfl (by decide) (by decide) (iw iT_12) rfl rfl (tw W_845) kv0 eb11 dX12_findByEffort_77 ?_
        refine j_iload E dX12_findByEffort_80 0 rfl ?_
        obtain ⟨o12, h⟩ := h
        refine j_iald E kb11 (by rw [lb11]; exact o12) dX12_findByEffort_82 ?_
        refine j_iload_n E dX12_findByEffort_83 4 rfl ?_
        refine j_icmp_le E 90 dX12_findByEffort_84 (by decide) (fun c13 => ?_) (fun c13 => ?_)
        · have h := h.1 c13
          refine j_aload_n E dX12_findByEffort_90 1 rfl ?_
          obtain ⟨b14, eb14, kb14, lb14⟩ := sh_f hZ kv0 (j := 40) (k := 14) (m := 25000) rfl
          have h := h b14 eb14
          refine j_getr E 12 40 rfl rfl (by decide) (by decide) (iw iT_12) rfl rfl (tw W_846) kv0 eb14 dX12_findByEffort_91 ?_
          refine j_sipush E (v := 1000) dX12_findByEffort_94 (by decide) ?_
          refine j_iload_n E dX12_findByEffort_97 3 rfl ?_
          refine j_iload E dX12_findByEffort_98 6 rfl ?_
          refine j_iadd E dX12_findByEffort_100 ?_
          refine j_iconst E (v := 1) dX12_findByEffort_101 (by decide) ?_
          refine j_iadd E dX12_findByEffort_102 ?_
          refine j_imul E dX12_findByEffort_103 ?_
          refine j_iload_n E dX12_findByEffort_104 4 rfl ?_
          refine j_iadd E dX12_findByEffort_105 ?_
          refine j_aload_n E dX12_findByEffort_106 1 rfl ?_
          obtain ⟨b15, eb15, kb15, lb15⟩ := sh_f hZ kv0 (j := 38) (k := 14) (m := 75) rfl
          have h := h b15 eb15
          refine j_getr E 12 38 rfl rfl (by decide) (by decide) (iw iT_12) rfl rfl (tw W_845) kv0 eb15 dX12_findByEffort_107 ?_
          refine j_iload E dX12_findByEffort_110 0 rfl ?_
          obtain ⟨o16, h⟩ := h
          refine j_iald E kb15 (by rw [lb15]; exact o16) dX12_findByEffort_112 ?_
          refine j_isub E dX12_findByEffort_113 ?_
          obtain ⟨o17, h⟩ := h
          refine j_iald E kb14 (by rw [lb14]; exact o17) dX12_findByEffort_114 ?_
          refine j_topi (fun x18 ex18 => ?_)
          have h := h x18 ex18
          refine j_istore E 7 [(7, .int x18), (6, .int x7), (0, .ref v0), (1, .int v1), (2, .int v2), (3, .int v3), (4, .int v4), (5, .int v5)] dX12_findByEffort_115 (by decide) rfl ?_
          refine j_iload E dX12_findByEffort_117 0 rfl ?_
          refine j_ldcw E (tw W_843) dX12_findByEffort_119 ?_
          refine j_icmp_eq E 147 dX12_findByEffort_122 (by decide) (fun c19 => ?_) (fun c19 => ?_)
          · have h := h.1 c19
            refine j_sub [2, 3, 4, 5, 6, 7] rfl ?_
            exact m_X12_findByEffort_b147 E hZ K7 hK7 K14 hK14 K45 hK45 v0 v1 v2 v3 v4 v5 I L kv0 h
          · have h := h.2 c19
            refine j_iload E dX12_findByEffort_125 6 rfl ?_
            refine j_iload E dX12_findByEffort_127 0 rfl ?_
            refine j_bipush E (v := 100) dX12_findByEffort_129 (by decide) ?_
            refine j_aload_n E dX12_findByEffort_131 2 rfl ?_
            obtain ⟨b20, eb20, kb20, lb20⟩ := sh_f hZ kv0 (j := 37) (k := 14) (m := 75) rfl
            have h := h b20 eb20
            refine j_getr E 12 37 rfl rfl (by decide) (by decide) (iw iT_12) rfl rfl (tw W_842) kv0 eb20 dX12_findByEffort_132 ?_
            refine j_iload E dX12_findByEffort_135 1 rfl ?_
            obtain ⟨o21, h⟩ := h
            refine j_iald E kb20 (by rw [lb20]; exact o21) dX12_findByEffort_137 ?_
            refine j_imul E dX12_findByEffort_138 ?_
            refine j_iadd E dX12_findByEffort_139 ?_
            refine j_iconst E (v := 1) dX12_findByEffort_140 (by decide) ?_
            refine j_iadd E dX12_findByEffort_141 ?_
            refine j_min E (tw W_783) (tw W_7) (tw W_8) (tw W_9) (Nat.le_of_ble_eq_true rfl) (Nat.le_of_ble_eq_true rfl) (Nat.zero_le _) (Nat.zero_le _) dX12_findByEffort_142 ?_
            refine j_topi (fun x22 ex22 => ?_)
            have h := h x22 ex22
            refine j_istore E 4 [(4, .int x22), (7, .int x18), (6, .int x7), (0, .ref v0), (1, .int v1), (2, .int v2), (3, .int v3), (5, .int v5)] dX12_findByEffort_145 (by decide) rfl ?_
            refine j_sub [3, 4, 5, 6, 0, 7] rfl ?_
            exact m_X12_findByEffort_b147 E hZ K7 hK7 K14 hK14 K45 hK45 v0 v1 v2 v3 x22 v5 I L kv0 h
        · have h := h.2 c13
          refine j_goto E 147 dX12_findByEffort_87 (by decide) ?_
          refine j_sub [1, 2, 3, 4, 5, 6] rfl ?_
          exact m_X12_findByEffort_b147 E hZ K7 hK7 K14 hK14 K45 hK45 v0 v1 v2 v3 v4 v5 I L kv0 h
set_option maxRecDepth 100000 in
def f_X12_findByEffort_b40 (K7 : Nat → Int32 → Int32 → jI → jL → Prop) (K14 : Nat → Int32 → Int32 → Int32 → jI → jL → Prop) (Z : jZ) (Q : jI → jL → Prop) (v0 : Nat) (v1 : Int32) (v2 : Int32) (v3 : Int32) (s0 : Int32) (I : jI) (L : jL) : Prop := (∃ m45 : Nat, f_X12_findByEffort_L45 K7 K14 Z Q m45 v0 v1 v2 v3 s0 (1 : Int32) I L)
set_option maxHeartbeats 4000000 in
set_option maxRecDepth 100000 in
theorem m_X12_findByEffort_b40 {G : jG} {Z : jZ} {Q : jI → jL → Prop} (E : jE G cX12_findByEffort RX12 w_X12_findByEffort 8 none { frames := 1, cells := 0, slots := 0, locals := 23 } (rtV Z Q)) (hZ : SH Z) (K7 : Nat → Int32 → Int32 → jI → jL → Prop) (hK7 : ∀ (v0 : Nat) (v1 : Int32) (v2 : Int32) (I : jI) (L : jL), jk Z v0 12 → K7 v0 v1 v2 I L → jJ G 8 7 [(0, .ref v0), (1, .int v1), (2, .int v2)] [] Z I L 0 0) (K14 : Nat → Int32 → Int32 → Int32 → jI → jL → Prop) (hK14 : ∀ (v0 : Nat) (v1 : Int32) (v2 : Int32) (v3 : Int32) (I : jI) (L : jL), jk Z v0 12 → K14 v0 v1 v2 v3 I L → jJ G 8 14 [(0, .ref v0), (1, .int v1), (2, .int v2), (3, .int v3)] [] Z I L 0 0) (v0 : Nat) (v1 : Int32) (v2 : Int32) (v3 : Int32) (s0 : Int32) (I : jI) (L : jL) (kv0 : jk Z v0 12) (h : f_X12_findByEffort_b40 K7 K14 Z Q v0 v1 v2 v3 s0 I L) : jJ G 8 40 [(0, .ref v0), (1, .int v1), (2, .int v2), (3, .int v3)] [.int s0] Z I L 0 0 := by
  refine j_istore E 4 [(4, .int s0), (0, .ref v0), (1, .int v1), (2, .int v2), (3, .int v3)] dX12_findByEffort_40 (by decide) rfl ?_
  refine j_iconst E (v := 1) dX12_findByEffort_42 (by decide) ?_
  refine j_istore E 5 [(5, .int (1 : Int32)), (4, .int s0), (0, .ref v0), (1, .int v1), (2, .int v2), (3, .int v3)] dX12_findByEffort_43 (by decide) rfl ?_
  obtain ⟨n23, h⟩ := h
  refine j_sub [2, 3, 4, 5, 1, 0] rfl ?_
  exact m_X12_findByEffort_L45 E hZ K7 hK7 K14 hK14 n23 v0 v1 v2 v3 s0 (1 : Int32) I L kv0 h
set_option maxRecDepth 100000 in
def f_X12_findByEffort_b37 (K7 : Nat → Int32 → Int32 → jI → jL → Prop) (K14 : Nat → Int32 → Int32 → Int32 → jI → jL → Prop) (Z : jZ) (Q : jI → jL → Prop) (v0 : Nat) (v1 : Int32) (v2 : Int32) (v3 : Int32) (I : jI) (L : jL) : Prop := f_X12_findByEffort_b40 K7 K14 Z Q v0 v1 v2 v3 (1000000000 : Int32) I L
set_option maxHeartbeats 4000000 in
set_option maxRecDepth 100000 in
theorem m_X12_findByEffort_b37 {G : jG} {Z : jZ} {Q : jI → jL → Prop} (E : jE G cX12_findByEffort RX12 w_X12_findByEffort 8 none { frames := 1, cells := 0, slots := 0, locals := 23 } (rtV Z Q)) (hZ : SH Z) (K7 : Nat → Int32 → Int32 → jI → jL → Prop) (hK7 : ∀ (v0 : Nat) (v1 : Int32) (v2 : Int32) (I : jI) (L : jL), jk Z v0 12 → K7 v0 v1 v2 I L → jJ G 8 7 [(0, .ref v0), (1, .int v1), (2, .int v2)] [] Z I L 0 0) (K14 : Nat → Int32 → Int32 → Int32 → jI → jL → Prop) (hK14 : ∀ (v0 : Nat) (v1 : Int32) (v2 : Int32) (v3 : Int32) (I : jI) (L : jL), jk Z v0 12 → K14 v0 v1 v2 v3 I L → jJ G 8 14 [(0, .ref v0), (1, .int v1), (2, .int v2), (3, .int v3)] [] Z I L 0 0) (v0 : Nat) (v1 : Int32) (v2 : Int32) (v3 : Int32) (I : jI) (L : jL) (kv0 : jk Z v0 12) (h : f_X12_findByEffort_b37 K7 K14 Z Q v0 v1 v2 v3 I L) : jJ G 8 37 [(0, .ref v0), (1, .int v1), (2, .int v2), (3, .int v3)] [] Z I L 0 0 := by
  refine j_ldcw E (tw W_843) dX12_findByEffort_37 ?_
  refine j_sub [0, 1, 2, 3] rfl ?_
  exact m_X12_findByEffort_b40 E hZ K7 hK7 K14 hK14 v0 v1 v2 v3 (1000000000 : Int32) I L kv0 h
set_option maxRecDepth 100000 in
def f_X12_findByEffort_L14 (K7 : Nat → Int32 → Int32 → jI → jL → Prop) (Z : jZ) (Q : jI → jL → Prop) : Nat → Nat → Int32 → Int32 → Int32 → jI → jL → Prop
  | 0 => fun _ _ _ _ _ _ => False
  | n + 1 => fun v0 v1 v2 v3 I L => ((v1 < v3 → (∀ x25 : Int32, x25 = v2 + (-1) → K7 v0 v1 x25 I L)) ∧ (¬ (v1 < v3) → ((¬ v2 = ((I v0 0) - (1 : Int32)) → f_X12_findByEffort_b37 K7 (f_X12_findByEffort_L14 K7 Z Q n) Z Q v0 v1 v2 v3 I L) ∧ (v2 = ((I v0 0) - (1 : Int32)) → ((¬ v3 = 0 → f_X12_findByEffort_b37 K7 (f_X12_findByEffort_L14 K7 Z Q n) Z Q v0 v1 v2 v3 I L) ∧ (v3 = 0 → f_X12_findByEffort_b40 K7 (f_X12_findByEffort_L14 K7 Z Q n) Z Q v0 v1 v2 v3 (0 : Int32) I L))))))
set_option maxHeartbeats 4000000 in
set_option maxRecDepth 100000 in
theorem m_X12_findByEffort_L14 {G : jG} {Z : jZ} {Q : jI → jL → Prop} (E : jE G cX12_findByEffort RX12 w_X12_findByEffort 8 none { frames := 1, cells := 0, slots := 0, locals := 23 } (rtV Z Q)) (hZ : SH Z) (K7 : Nat → Int32 → Int32 → jI → jL → Prop) (hK7 : ∀ (v0 : Nat) (v1 : Int32) (v2 : Int32) (I : jI) (L : jL), jk Z v0 12 → K7 v0 v1 v2 I L → jJ G 8 7 [(0, .ref v0), (1, .int v1), (2, .int v2)] [] Z I L 0 0) : ∀ (n : Nat) (v0 : Nat) (v1 : Int32) (v2 : Int32) (v3 : Int32) (I : jI) (L : jL), jk Z v0 12 → f_X12_findByEffort_L14 K7 Z Q n v0 v1 v2 v3 I L → jJ G 8 14 [(0, .ref v0), (1, .int v1), (2, .int v2), (3, .int v3)] [] Z I L 0 0 := by
  intro n
  induction n with
  | zero => intro v0 v1 v2 v3 I L _ h; exact h.elim
  | succ n ih =>
    intro v0 v1 v2 v3 I L kv0 h
    have h : ((v1 < v3 → (∀ x25 : Int32, x25 = v2 + (-1) → K7 v0 v1 x25 I L)) ∧ (¬ (v1 < v3) → ((¬ v2 = ((I v0 0) - (1 : Int32)) → f_X12_findByEffort_b37 K7 (f_X12_findByEffort_L14 K7 Z Q n) Z Q v0 v1 v2 v3 I L) ∧ (v2 = ((I v0 0) - (1 : Int32)) → ((¬ v3 = 0 → f_X12_findByEffort_b37 K7 (f_X12_findByEffort_L14 K7 Z Q n) Z Q v0 v1 v2 v3 I L) ∧ (v3 = 0 → f_X12_findByEffort_b40 K7 (f_X12_findByEffort_L14 K7 Z Q n) Z Q v0 v1 v2 v3 (0 : Int32) I L)))))) := h
    obtain ⟨K14, eK14⟩ : ∃ K : Nat → Int32 → Int32 → Int32 → jI → jL → Prop, K = f_X12_findByEffort_L14 K7 Z Q n := ⟨_, rfl⟩
    have hK14 := ih
    clear eK14 K14
    generalize f_X12_findByEffort_L14 K7 Z Q n = K14 at hK14 h
    refine j_iload_n E dX12_findByEffort_14 3 rfl ?_
    refine j_iload_n E dX12_findByEffort_15 1 rfl ?_
    refine j_icmp_gt E 175 dX12_findByEffort_16 (by decide) (fun c24 => ?_) (fun c24 => ?_)
    · have h := h.1 c24
      obtain ⟨x25, ex25⟩ : ∃ y : Int32, y = v2 + (-1) := ⟨_, rfl⟩
      have h := h x25 ex25
      refine j_iinc E x25 [(2, .int x25), (0, .ref v0), (1, .int v1), (3, .int v3)] dX12_findByEffort_175 2 rfl (by rw [ex25]; rfl) (by decide) rfl ?_
      refine j_goto E 7 dX12_findByEffort_178 (by decide) ?_
      refine j_sub [1, 2, 0] rfl ?_
      exact hK7 v0 v1 x25 I L kv0 h
    · have h := h.2 c24
      refine j_iload_n E dX12_findByEffort_19 2 rfl ?_
      refine j_aload_n E dX12_findByEffort_20 0 rfl ?_
      refine j_geti E 12 0 rfl rfl (by decide) (by decide) (iw iT_12) rfl rfl (tw W_693) kv0 dX12_findByEffort_21 ?_
      refine j_iconst E (v := 1) dX12_findByEffort_24 (by decide) ?_
      refine j_isub E dX12_findByEffort_25 ?_
      refine j_icmp_ne E 37 dX12_findByEffort_26 (by decide) (fun c26 => ?_) (fun c26 => ?_)
      · have h := h.1 c26
        refine j_sub [0, 1, 2, 3] rfl ?_
        exact m_X12_findByEffort_b37 E hZ K7 hK7 K14 hK14 v0 v1 v2 v3 I L kv0 h
      · have h := h.2 c26
        refine j_iload_n E dX12_findByEffort_29 3 rfl ?_
        refine j_if_ne E 37 dX12_findByEffort_30 (by decide) (fun c27 => ?_) (fun c27 => ?_)
        · have h := h.1 c27
          refine j_sub [0, 1, 2, 3] rfl ?_
          exact m_X12_findByEffort_b37 E hZ K7 hK7 K14 hK14 v0 v1 v2 v3 I L kv0 h
        · have h := h.2 c27
          refine j_iconst E (v := 0) dX12_findByEffort_33 (by decide) ?_
          refine j_goto E 40 dX12_findByEffort_34 (by decide) ?_
          refine j_sub [0, 1, 2, 3] rfl ?_
          exact m_X12_findByEffort_b40 E hZ K7 hK7 K14 hK14 v0 v1 v2 v3 (0 : Int32) I L kv0 h
set_option maxRecDepth 100000 in
def f_X12_findByEffort_L7  (Z : jZ) (Q : jI → jL → Prop) : Nat → Nat → Int32 → Int32 → jI → jL → Prop
  | 0 => fun _ _ _ _ _ => False
  | n + 1 => fun v0 v1 v2 I L => ((v2 < (-1 : Int32) → Q I L) ∧ (¬ (v2 < (-1 : Int32)) → (∃ m14 : Nat, f_X12_findByEffort_L14 (f_X12_findByEffort_L7 Z Q n) Z Q m14 v0 v1 v2 (0 : Int32) I L)))
set_option maxHeartbeats 4000000 in
set_option maxRecDepth 100000 in
theorem m_X12_findByEffort_L7 {G : jG} {Z : jZ} {Q : jI → jL → Prop} (E : jE G cX12_findByEffort RX12 w_X12_findByEffort 8 none { frames := 1, cells := 0, slots := 0, locals := 23 } (rtV Z Q)) (hZ : SH Z)  : ∀ (n : Nat) (v0 : Nat) (v1 : Int32) (v2 : Int32) (I : jI) (L : jL), jk Z v0 12 → f_X12_findByEffort_L7  Z Q n v0 v1 v2 I L → jJ G 8 7 [(0, .ref v0), (1, .int v1), (2, .int v2)] [] Z I L 0 0 := by
  intro n
  induction n with
  | zero => intro v0 v1 v2 I L _ h; exact h.elim
  | succ n ih =>
    intro v0 v1 v2 I L kv0 h
    have h : ((v2 < (-1 : Int32) → Q I L) ∧ (¬ (v2 < (-1 : Int32)) → (∃ m14 : Nat, f_X12_findByEffort_L14 (f_X12_findByEffort_L7 Z Q n) Z Q m14 v0 v1 v2 (0 : Int32) I L))) := h
    obtain ⟨K7, eK7⟩ : ∃ K : Nat → Int32 → Int32 → jI → jL → Prop, K = f_X12_findByEffort_L7  Z Q n := ⟨_, rfl⟩
    have hK7 := ih
    clear eK7 K7
    generalize f_X12_findByEffort_L7  Z Q n = K7 at hK7 h
    refine j_iload_n E dX12_findByEffort_7 2 rfl ?_
    refine j_iconst E (v := -1) dX12_findByEffort_8 (by decide) ?_
    refine j_icmp_lt E 181 dX12_findByEffort_9 (by decide) (fun c28 => ?_) (fun c28 => ?_)
    · have h := h.1 c28
      exact j_return E ⟨rfl, rfl, h⟩ (Nat.zero_le _) (Nat.zero_le _) dX12_findByEffort_181
    · have h := h.2 c28
      refine j_iconst E (v := 0) dX12_findByEffort_12 (by decide) ?_
      refine j_istore_n E 3 [(3, .int (0 : Int32)), (0, .ref v0), (1, .int v1), (2, .int v2)] dX12_findByEffort_13 rfl (by decide) rfl ?_
      obtain ⟨n29, h⟩ := h
      refine j_sub [1, 2, 3, 0] rfl ?_
      exact m_X12_findByEffort_L14 E hZ K7 hK7 n29 v0 v1 v2 (0 : Int32) I L kv0 h
set_option maxRecDepth 100000 in
def f_X12_findByEffort (v0 : Nat) (v1 : Int32) (Z : jZ) (I : jI) (L : jL) (Q : jI → jL → Prop) : Prop := (∀ x30 : Int32, x30 = ((I v0 0) - (1 : Int32)) → (∃ m7 : Nat, f_X12_findByEffort_L7  Z Q m7 v0 v1 x30 I L))
set_option maxHeartbeats 4000000 in
set_option maxRecDepth 100000 in
theorem c_X12_findByEffort (l : Launch) (D : va_G) (cy : jC) (v0 : Nat) (v1 : Int32) (Z : jZ) (I : jI) (L : jL) (Q : jI → jL → Prop) (hZ : SH Z) (kv0 : jk Z v0 12) (h : f_X12_findByEffort v0 v1 Z I L Q) : jCt l yX12_findByEffort w_X12_findByEffort { frames := 1, cells := 0, slots := 0, locals := 23 } D cy [.ref v0, .int v1] Z I L (rtV Z Q) := by
  refine jCt_of (cc := cX12_findByEffort) (maxL := 8) (ret := none) (by decide +kernel) rfl (Nat.le_of_ble_eq_true rfl) ?_
  intro G eD eY eL E
  subst eD; subst eY; subst eL
  have E : jE G cX12_findByEffort RX12 w_X12_findByEffort 8 none { frames := 1, cells := 0, slots := 0, locals := 23 } (rtV Z Q) := E
  show jJ G 8 0 [(0, .ref v0), (1, .int v1)] [] Z I L 0 0
  refine j_aload_n E dX12_findByEffort_0 0 rfl ?_
  refine j_geti E 12 0 rfl rfl (by decide) (by decide) (iw iT_12) rfl rfl (tw W_693) kv0 dX12_findByEffort_1 ?_
  refine j_iconst E (v := 1) dX12_findByEffort_4 (by decide) ?_
  refine j_isub E dX12_findByEffort_5 ?_
  refine j_topi (fun x30 ex30 => ?_)
  have h := h x30 ex30
  refine j_istore_n E 2 [(2, .int x30), (0, .ref v0), (1, .int v1)] dX12_findByEffort_6 rfl (by decide) rfl ?_
  obtain ⟨n31, h⟩ := h
  refine j_sub [1, 2, 0] rfl ?_
  exact m_X12_findByEffort_L7 E hZ  n31 v0 v1 x30 I L kv0 h
set_option maxRecDepth 100000 in
def f_X12_isOn (v0 : Nat) (v1 : Int32) (v2 : Int32) (v3 : Int32) (Z : jZ) (I : jI) (L : jL) (Q : Int32 → jI → jL → Prop) : Prop := (∀ x1 : Int32, x1 = ((((3 : Int32) * (v1 + (1 : Int32))) + v2) - (1 : Int32)) → (∀ b2 : Nat, jr Z v0 37 = some b2 → (vp_in x1 75 ∧ (((I b2 x1.toNatClampNeg) = (1000000000 : Int32) → Q (0 : Int32) I L) ∧ (¬ ((I b2 x1.toNatClampNeg) = (1000000000 : Int32)) → (∀ b5 : Nat, jr Z v0 38 = some b5 → (vp_in x1 75 ∧ (((I b5 x1.toNatClampNeg) ≤ v3 → (∀ b8 : Nat, jr Z v0 40 = some b8 → (∀ b9 : Nat, jr Z v0 38 = some b9 → (vp_in x1 75 ∧ (vp_in ((((1000 : Int32) * ((v1 + v2) + (1 : Int32))) + v3) - (I b9 x1.toNatClampNeg)) 25000 ∧ (∀ x12 : Int32, x12 = (I b8 ((((1000 : Int32) * ((v1 + v2) + (1 : Int32))) + v3) - (I b9 x1.toNatClampNeg)).toNatClampNeg) → ((x12 = (1000000000 : Int32) → Q (0 : Int32) I L) ∧ (¬ (x12 = (1000000000 : Int32)) → (∀ b14 : Nat, jr Z v0 37 = some b14 → (vp_in x1 75 ∧ (∀ b16 : Nat, jr Z v0 40 = some b16 → (vp_in (((1000 : Int32) * (v1 + (1 : Int32))) + v3) 25000 ∧ ((¬ ((x12 + ((100 : Int32) * (I b14 x1.toNatClampNeg))) + (1 : Int32)) = (I b16 (((1000 : Int32) * (v1 + (1 : Int32))) + v3).toNatClampNeg) → Q (0 : Int32) I L) ∧ (((x12 + ((100 : Int32) * (I b14 x1.toNatClampNeg))) + (1 : Int32)) = (I b16 (((1000 : Int32) * (v1 + (1 : Int32))) + v3).toNatClampNeg) → Q (1 : Int32) I L)))))))))))))) ∧ (¬ ((I b5 x1.toNatClampNeg) ≤ v3) → Q (0 : Int32) I L)))))))))
set_option maxHeartbeats 4000000 in
set_option maxRecDepth 100000 in
theorem c_X12_isOn (l : Launch) (D : va_G) (cy : jC) (v0 : Nat) (v1 : Int32) (v2 : Int32) (v3 : Int32) (Z : jZ) (I : jI) (L : jL) (Q : Int32 → jI → jL → Prop) (hZ : SH Z) (kv0 : jk Z v0 12) (h : f_X12_isOn v0 v1 v2 v3 Z I L Q) : jCt l yX12_isOn w_X12_isOn { frames := 0, cells := 0, slots := 0, locals := 0 } D cy [.ref v0, .int v1, .int v2, .int v3] Z I L (rtZ Z Q) := by
  refine jCt_of (cc := cX12_isOn) (maxL := 6) (ret := (some .boolean)) (by decide +kernel) rfl (Nat.le_of_ble_eq_true rfl) ?_
  intro G eD eY eL E
  subst eD; subst eY; subst eL
  have E : jE G cX12_isOn RX12 w_X12_isOn 6 (some .boolean) { frames := 0, cells := 0, slots := 0, locals := 0 } (rtZ Z Q) := E
  show jJ G 6 0 [(0, .ref v0), (1, .int v1), (2, .int v2), (3, .int v3)] [] Z I L 0 0
  refine j_iconst E (v := 3) dX12_isOn_0 (by decide) ?_
  refine j_iload_n E dX12_isOn_1 1 rfl ?_
  refine j_iconst E (v := 1) dX12_isOn_2 (by decide) ?_
  refine j_iadd E dX12_isOn_3 ?_
  refine j_imul E dX12_isOn_4 ?_
  refine j_iload_n E dX12_isOn_5 2 rfl ?_
  refine j_iadd E dX12_isOn_6 ?_
  refine j_iconst E (v := 1) dX12_isOn_7 (by decide) ?_
  refine j_isub E dX12_isOn_8 ?_
  refine j_topi (fun x1 ex1 => ?_)
  have h := h x1 ex1
  refine j_istore E 4 [(4, .int x1), (0, .ref v0), (1, .int v1), (2, .int v2), (3, .int v3)] dX12_isOn_9 (by decide) rfl ?_
  refine j_aload_n E dX12_isOn_11 1 rfl ?_
  obtain ⟨b2, eb2, kb2, lb2⟩ := sh_f hZ kv0 (j := 37) (k := 14) (m := 75) rfl
  have h := h b2 eb2
  refine j_getr E 12 37 rfl rfl (by decide) (by decide) (iw iT_12) rfl rfl (tw W_842) kv0 eb2 dX12_isOn_12 ?_
  refine j_iload E dX12_isOn_15 0 rfl ?_
  obtain ⟨o3, h⟩ := h
  refine j_iald E kb2 (by rw [lb2]; exact o3) dX12_isOn_17 ?_
  refine j_ldcw E (tw W_843) dX12_isOn_18 ?_
  refine j_icmp_eq E 35 dX12_isOn_21 (by decide) (fun c4 => ?_) (fun c4 => ?_)
  · have h := h.1 c4
    refine j_iconst E (v := 0) dX12_isOn_35 (by decide) ?_
    exact j_zreturn E (Or.inl rfl) ⟨rfl, _, rfl, (Or.inl rfl), h⟩ (Nat.zero_le _) (Nat.zero_le _) dX12_isOn_36
  · have h := h.2 c4
    refine j_aload_n E dX12_isOn_24 1 rfl ?_
    obtain ⟨b5, eb5, kb5, lb5⟩ := sh_f hZ kv0 (j := 38) (k := 14) (m := 75) rfl
    have h := h b5 eb5
    refine j_getr E 12 38 rfl rfl (by decide) (by decide) (iw iT_12) rfl rfl (tw W_845) kv0 eb5 dX12_isOn_25 ?_
    refine j_iload E dX12_isOn_28 0 rfl ?_
    obtain ⟨o6, h⟩ := h
    refine j_iald E kb5 (by rw [lb5]; exact o6) dX12_isOn_30 ?_
    refine j_iload_n E dX12_isOn_31 4 rfl ?_
    refine j_icmp_le E 37 dX12_isOn_32 (by decide) (fun c7 => ?_) (fun c7 => ?_)
    · have h := h.1 c7
      refine j_aload_n E dX12_isOn_37 1 rfl ?_
      obtain ⟨b8, eb8, kb8, lb8⟩ := sh_f hZ kv0 (j := 40) (k := 14) (m := 25000) rfl
      have h := h b8 eb8
      refine j_getr E 12 40 rfl rfl (by decide) (by decide) (iw iT_12) rfl rfl (tw W_846) kv0 eb8 dX12_isOn_38 ?_
      refine j_sipush E (v := 1000) dX12_isOn_41 (by decide) ?_
      refine j_iload_n E dX12_isOn_44 2 rfl ?_
      refine j_iload_n E dX12_isOn_45 3 rfl ?_
      refine j_iadd E dX12_isOn_46 ?_
      refine j_iconst E (v := 1) dX12_isOn_47 (by decide) ?_
      refine j_iadd E dX12_isOn_48 ?_
      refine j_imul E dX12_isOn_49 ?_
      refine j_iload_n E dX12_isOn_50 4 rfl ?_
      refine j_iadd E dX12_isOn_51 ?_
      refine j_aload_n E dX12_isOn_52 1 rfl ?_
      obtain ⟨b9, eb9, kb9, lb9⟩ := sh_f hZ kv0 (j := 38) (k := 14) (m := 75) rfl
      have h := h b9 eb9
      refine j_getr E 12 38 rfl rfl (by decide) (by decide) (iw iT_12) rfl rfl (tw W_845) kv0 eb9 dX12_isOn_53 ?_
      refine j_iload E dX12_isOn_56 0 rfl ?_
      obtain ⟨o10, h⟩ := h
      refine j_iald E kb9 (by rw [lb9]; exact o10) dX12_isOn_58 ?_
      refine j_isub E dX12_isOn_59 ?_
      obtain ⟨o11, h⟩ := h
      refine j_iald E kb8 (by rw [lb8]; exact o11) dX12_isOn_60 ?_
      refine j_topi (fun x12 ex12 => ?_)
      have h := h x12 ex12
      refine j_istore E 5 [(5, .int x12), (4, .int x1), (0, .ref v0), (1, .int v1), (2, .int v2), (3, .int v3)] dX12_isOn_61 (by decide) rfl ?_
      refine j_iload E dX12_isOn_63 0 rfl ?_
      refine j_ldcw E (tw W_843) dX12_isOn_65 ?_
      refine j_icmp_eq E 107 dX12_isOn_68 (by decide) (fun c13 => ?_) (fun c13 => ?_)
      · have h := h.1 c13
        refine j_iconst E (v := 0) dX12_isOn_107 (by decide) ?_
        exact j_zreturn E (Or.inl rfl) ⟨rfl, _, rfl, (Or.inl rfl), h⟩ (Nat.zero_le _) (Nat.zero_le _) dX12_isOn_108
      · have h := h.2 c13
        refine j_iload E dX12_isOn_71 0 rfl ?_
        refine j_bipush E (v := 100) dX12_isOn_73 (by decide) ?_
        refine j_aload_n E dX12_isOn_75 2 rfl ?_
        obtain ⟨b14, eb14, kb14, lb14⟩ := sh_f hZ kv0 (j := 37) (k := 14) (m := 75) rfl
        have h := h b14 eb14
        refine j_getr E 12 37 rfl rfl (by decide) (by decide) (iw iT_12) rfl rfl (tw W_842) kv0 eb14 dX12_isOn_76 ?_
        refine j_iload E dX12_isOn_79 1 rfl ?_
        obtain ⟨o15, h⟩ := h
        refine j_iald E kb14 (by rw [lb14]; exact o15) dX12_isOn_81 ?_
        refine j_imul E dX12_isOn_82 ?_
        refine j_iadd E dX12_isOn_83 ?_
        refine j_iconst E (v := 1) dX12_isOn_84 (by decide) ?_
        refine j_iadd E dX12_isOn_85 ?_
        refine j_aload_n E dX12_isOn_86 2 rfl ?_
        obtain ⟨b16, eb16, kb16, lb16⟩ := sh_f hZ kv0 (j := 40) (k := 14) (m := 25000) rfl
        have h := h b16 eb16
        refine j_getr E 12 40 rfl rfl (by decide) (by decide) (iw iT_12) rfl rfl (tw W_846) kv0 eb16 dX12_isOn_87 ?_
        refine j_sipush E (v := 1000) dX12_isOn_90 (by decide) ?_
        refine j_iload_n E dX12_isOn_93 3 rfl ?_
        refine j_iconst E (v := 1) dX12_isOn_94 (by decide) ?_
        refine j_iadd E dX12_isOn_95 ?_
        refine j_imul E dX12_isOn_96 ?_
        refine j_iload_n E dX12_isOn_97 5 rfl ?_
        refine j_iadd E dX12_isOn_98 ?_
        obtain ⟨o17, h⟩ := h
        refine j_iald E kb16 (by rw [lb16]; exact o17) dX12_isOn_99 ?_
        refine j_icmp_ne E 107 dX12_isOn_100 (by decide) (fun c18 => ?_) (fun c18 => ?_)
        · have h := h.1 c18
          refine j_iconst E (v := 0) dX12_isOn_107 (by decide) ?_
          exact j_zreturn E (Or.inl rfl) ⟨rfl, _, rfl, (Or.inl rfl), h⟩ (Nat.zero_le _) (Nat.zero_le _) dX12_isOn_108
        · have h := h.2 c18
          refine j_iconst E (v := 1) dX12_isOn_103 (by decide) ?_
          refine j_goto E 108 dX12_isOn_104 (by decide) ?_
          exact j_zreturn E (Or.inr rfl) ⟨rfl, _, rfl, (Or.inr rfl), h⟩ (Nat.zero_le _) (Nat.zero_le _) dX12_isOn_108
    · have h := h.2 c7
      refine j_iconst E (v := 0) dX12_isOn_35 (by decide) ?_
      exact j_zreturn E (Or.inl rfl) ⟨rfl, _, rfl, (Or.inl rfl), h⟩ (Nat.zero_le _) (Nat.zero_le _) dX12_isOn_36
set_option maxRecDepth 100000 in
def f_X12_findClimb_L144 (B : Nat × Nat) (K131 : Nat → Int32 → Int32 → jZ → jI → jL → Prop) (Q : Int32 → jZ → jI → jL → Prop) : Nat → Nat → Int32 → Int32 → Int32 → jZ → jI → jL → Prop
  | 0 => fun _ _ _ _ _ _ _ => False
  | n + 1 => fun v0 v3 v4 v5 Z I L => (f_X12_isOn v0 v3 v5 v4 Z I L (fun r7 I3 L4 => ((¬ r7 = 0 → (∀ b9 : Nat, jr Z v0 38 = some b9 → (vp_in ((((3 : Int32) * (v3 + (1 : Int32))) + v5) - (1 : Int32)) 75 ∧ (∀ x11 : Int32, x11 = (v4 - (I3 b9 ((((3 : Int32) * (v3 + (1 : Int32))) + v5) - (1 : Int32)).toNatClampNeg)) → (∀ x12 : Int32, x12 = (v3 + v5) → (∀ b13 : Nat, jr Z v0 44 = some b13 → (vp_in (I3 v0 43) 24 ∧ (∀ I15 : jI, I15 = jpI I3 b13 (I3 v0 43).toNatClampNeg x12 → (∀ I16 : jI, I16 = jpI I15 v0 43 ((I15 v0 43) + (1 : Int32)) → K131 v0 x12 x11 Z I16 L4))))))))) ∧ (r7 = 0 → (∀ x17 : Int32, x17 = v5 + 1 → (f_X12_findClimb_L144 B K131 Q n) v0 v3 v4 x17 Z I3 L4)))))
set_option maxHeartbeats 4000000 in
set_option maxRecDepth 100000 in
theorem m_X12_findClimb_L144 {G : jG} {Z0 : jZ} {B : Nat × Nat} {Q : Int32 → jZ → jI → jL → Prop} (E : jE G cX12_findClimb RX12 w_X12_findClimb 6 (some .boolean) (jrm B 106 2564 Z0) jRF) (EU : jEU G B Z0 (urtZ B Z0 Q)) (K131 : Nat → Int32 → Int32 → jZ → jI → jL → Prop) (hK131 : ∀ (v0 : Nat) (v3 : Int32) (v4 : Int32) (Z : jZ) (I : jI) (L : jL), SH Z → jext Z0 Z → jle Z0 Z → jin B Z → jk Z v0 12 → K131 v0 v3 v4 Z I L → jJ G 6 131 [(0, .ref v0), (3, .int v3), (4, .int v4)] [] Z I L (jcz Z - jcz Z0) (jsz Z - jsz Z0)) : ∀ (n : Nat) (v0 : Nat) (v3 : Int32) (v4 : Int32) (v5 : Int32) (Z : jZ) (I : jI) (L : jL), SH Z → jext Z0 Z → jle Z0 Z → jin B Z → jk Z v0 12 → f_X12_findClimb_L144 B K131 Q n v0 v3 v4 v5 Z I L → jJ G 6 144 [(0, .ref v0), (3, .int v3), (4, .int v4), (5, .int v5)] [] Z I L (jcz Z - jcz Z0) (jsz Z - jsz Z0) := by
  intro n
  induction n with
  | zero => intro v0 v3 v4 v5 Z I L _ _ _ _ _ h; exact h.elim
  | succ n ih =>
    intro v0 v3 v4 v5 Z I L hZ hx hc hb kv0 h
    have h : (f_X12_isOn v0 v3 v5 v4 Z I L (fun r7 I3 L4 => ((¬ r7 = 0 → (∀ b9 : Nat, jr Z v0 38 = some b9 → (vp_in ((((3 : Int32) * (v3 + (1 : Int32))) + v5) - (1 : Int32)) 75 ∧ (∀ x11 : Int32, x11 = (v4 - (I3 b9 ((((3 : Int32) * (v3 + (1 : Int32))) + v5) - (1 : Int32)).toNatClampNeg)) → (∀ x12 : Int32, x12 = (v3 + v5) → (∀ b13 : Nat, jr Z v0 44 = some b13 → (vp_in (I3 v0 43) 24 ∧ (∀ I15 : jI, I15 = jpI I3 b13 (I3 v0 43).toNatClampNeg x12 → (∀ I16 : jI, I16 = jpI I15 v0 43 ((I15 v0 43) + (1 : Int32)) → K131 v0 x12 x11 Z I16 L4))))))))) ∧ (r7 = 0 → (∀ x17 : Int32, x17 = v5 + 1 → (f_X12_findClimb_L144 B K131 Q n) v0 v3 v4 x17 Z I3 L4))))) := h
    obtain ⟨K144, eK144⟩ : ∃ K : Nat → Int32 → Int32 → Int32 → jZ → jI → jL → Prop, K = f_X12_findClimb_L144 B K131 Q n := ⟨_, rfl⟩
    have hK144 := ih
    clear eK144 K144
    generalize f_X12_findClimb_L144 B K131 Q n = K144 at hK144 h
    refine j_aload_n E dX12_findClimb_144 0 rfl ?_
    refine j_iload_n E dX12_findClimb_145 1 rfl ?_
    refine j_iload E dX12_findClimb_146 3 rfl ?_
    refine j_iload E dX12_findClimb_148 2 rfl ?_
    refine j_callV E [.int v3, .int v5, .int v4] [] (c_X12_isOn (gL G) (gD G) (gY G) v0 v3 v5 v4 Z I L _ hZ kv0 h) (gwV W_848 W_849 W_850 W_695 W_847) rfl ⟨rfl, fy_X12_isOn⟩ ⟨Nat.le_of_ble_eq_true rfl, Nat.le_of_ble_eq_true rfl⟩ (c := 12) rfl (by decide) kv0 rfl rfl (Nat.le_of_ble_eq_true rfl) (ju_kn hb) dX12_findClimb_150 (fun v1 Z2 I3 L4 q5 => ?_)
    obtain ⟨rfl, r7, rfl, zr7, h⟩ := q5
    show jJ G 6 153 [(0, .ref v0), (3, .int v3), (4, .int v4), (5, .int v5)] [.int r7] Z I3 L4 (jcz Z - jcz Z0) (jsz Z - jsz Z0)
    refine j_if_ne E 162 dX12_findClimb_153 (by decide) (fun c8 => ?_) (fun c8 => ?_)
    · have h := h.1 c8
      refine j_iload E dX12_findClimb_162 2 rfl ?_
      refine j_aload_n E dX12_findClimb_164 0 rfl ?_
      obtain ⟨b9, eb9, kb9, lb9⟩ := sh_f hZ kv0 (j := 38) (k := 14) (m := 75) rfl
      have h := h b9 eb9
      refine j_getr E 12 38 rfl rfl (by decide) (by decide) (iw iT_12) rfl rfl (tw W_845) kv0 eb9 dX12_findClimb_165 ?_
      refine j_iconst E (v := 3) dX12_findClimb_168 (by decide) ?_
      refine j_iload_n E dX12_findClimb_169 1 rfl ?_
      refine j_iconst E (v := 1) dX12_findClimb_170 (by decide) ?_
      refine j_iadd E dX12_findClimb_171 ?_
      refine j_imul E dX12_findClimb_172 ?_
      refine j_iload E dX12_findClimb_173 3 rfl ?_
      refine j_iadd E dX12_findClimb_175 ?_
      refine j_iconst E (v := 1) dX12_findClimb_176 (by decide) ?_
      refine j_isub E dX12_findClimb_177 ?_
      obtain ⟨o10, h⟩ := h
      refine j_iald E kb9 (by rw [lb9]; exact o10) dX12_findClimb_178 ?_
      refine j_isub E dX12_findClimb_179 ?_
      refine j_topi (fun x11 ex11 => ?_)
      have h := h x11 ex11
      refine j_istore E 4 [(4, .int x11), (0, .ref v0), (3, .int v3), (5, .int v5)] dX12_findClimb_180 (by decide) rfl ?_
      refine j_iload_n E dX12_findClimb_182 2 rfl ?_
      refine j_iload E dX12_findClimb_183 3 rfl ?_
      refine j_iadd E dX12_findClimb_185 ?_
      refine j_topi (fun x12 ex12 => ?_)
      have h := h x12 ex12
      refine j_istore_n E 3 [(3, .int x12), (4, .int x11), (0, .ref v0), (5, .int v5)] dX12_findClimb_186 rfl (by decide) rfl ?_
      refine j_aload_n E dX12_findClimb_187 2 rfl ?_
      obtain ⟨b13, eb13, kb13, lb13⟩ := sh_f hZ kv0 (j := 44) (k := 14) (m := 24) rfl
      have h := h b13 eb13
      refine j_getr E 12 44 rfl rfl (by decide) (by decide) (iw iT_12) rfl rfl (tw W_851) kv0 eb13 dX12_findClimb_188 ?_
      refine j_aload_n E dX12_findClimb_191 2 rfl ?_
      refine j_geti E 12 43 rfl rfl (by decide) (by decide) (iw iT_12) rfl rfl (tw W_852) kv0 dX12_findClimb_192 ?_
      refine j_iload_n E dX12_findClimb_195 0 rfl ?_
      obtain ⟨o14, h⟩ := h
      refine j_iast E kb13 (by rw [lb13]; exact o14) dX12_findClimb_196 ?_
      refine j_nmI (fun I15 eI15 => ?_)
      have h := h I15 eI15
      refine j_aload_n E dX12_findClimb_197 2 rfl ?_
      refine j_dup E dX12_findClimb_198 rfl ?_
      refine j_geti E 12 43 rfl rfl (by decide) (by decide) (iw iT_12) rfl rfl (tw W_852) kv0 dX12_findClimb_199 ?_
      refine j_iconst E (v := 1) dX12_findClimb_202 (by decide) ?_
      refine j_iadd E dX12_findClimb_203 ?_
      refine j_puti E 12 43 rfl rfl (by decide) (by decide) (iw iT_12) tyX12_ok nmX12 rfl rfl (tw W_852) rfl rfl rfl kv0 dX12_findClimb_204 ?_
      refine j_nmI (fun I16 eI16 => ?_)
      have h := h I16 eI16
      refine j_goto E 131 dX12_findClimb_207 (by decide) ?_
      refine j_sub [2, 0, 1] rfl ?_
      exact hK131 v0 x12 x11 Z I16 L4 hZ hx hc hb kv0 h
    · have h := h.2 c8
      obtain ⟨x17, ex17⟩ : ∃ y : Int32, y = v5 + 1 := ⟨_, rfl⟩
      have h := h x17 ex17
      refine j_iinc E x17 [(5, .int x17), (0, .ref v0), (3, .int v3), (4, .int v4)] dX12_findClimb_156 3 rfl (by rw [ex17]; rfl) (by decide) rfl ?_
      refine j_goto E 144 dX12_findClimb_159 (by decide) ?_
      refine j_sub [1, 2, 3, 0] rfl ?_
      exact hK144 v0 v3 v4 x17 Z I3 L4 hZ hx hc hb kv0 h
set_option maxRecDepth 100000 in
def f_X12_findClimb_L131 (B : Nat × Nat)  (Q : Int32 → jZ → jI → jL → Prop) : Nat → Nat → Int32 → Int32 → jZ → jI → jL → Prop
  | 0 => fun _ _ _ _ _ _ => False
  | n + 1 => fun v0 v3 v4 Z I L => ((((I v0 0) - (1 : Int32)) ≤ v3 → Q (1 : Int32) Z I L) ∧ (¬ (((I v0 0) - (1 : Int32)) ≤ v3) → (∃ m144 : Nat, f_X12_findClimb_L144 B (f_X12_findClimb_L131 B Q n) Q m144 v0 v3 v4 (1 : Int32) Z I L)))
set_option maxHeartbeats 4000000 in
set_option maxRecDepth 100000 in
theorem m_X12_findClimb_L131 {G : jG} {Z0 : jZ} {B : Nat × Nat} {Q : Int32 → jZ → jI → jL → Prop} (E : jE G cX12_findClimb RX12 w_X12_findClimb 6 (some .boolean) (jrm B 106 2564 Z0) jRF) (EU : jEU G B Z0 (urtZ B Z0 Q))  : ∀ (n : Nat) (v0 : Nat) (v3 : Int32) (v4 : Int32) (Z : jZ) (I : jI) (L : jL), SH Z → jext Z0 Z → jle Z0 Z → jin B Z → jk Z v0 12 → f_X12_findClimb_L131 B  Q n v0 v3 v4 Z I L → jJ G 6 131 [(0, .ref v0), (3, .int v3), (4, .int v4)] [] Z I L (jcz Z - jcz Z0) (jsz Z - jsz Z0) := by
  intro n
  induction n with
  | zero => intro v0 v3 v4 Z I L _ _ _ _ _ h; exact h.elim
  | succ n ih =>
    intro v0 v3 v4 Z I L hZ hx hc hb kv0 h
    have h : ((((I v0 0) - (1 : Int32)) ≤ v3 → Q (1 : Int32) Z I L) ∧ (¬ (((I v0 0) - (1 : Int32)) ≤ v3) → (∃ m144 : Nat, f_X12_findClimb_L144 B (f_X12_findClimb_L131 B Q n) Q m144 v0 v3 v4 (1 : Int32) Z I L))) := h
    obtain ⟨K131, eK131⟩ : ∃ K : Nat → Int32 → Int32 → jZ → jI → jL → Prop, K = f_X12_findClimb_L131 B  Q n := ⟨_, rfl⟩
    have hK131 := ih
    clear eK131 K131
    generalize f_X12_findClimb_L131 B  Q n = K131 at hK131 h
    refine j_iload_n E dX12_findClimb_131 1 rfl ?_
    refine j_aload_n E dX12_findClimb_132 0 rfl ?_
    refine j_geti E 12 0 rfl rfl (by decide) (by decide) (iw iT_12) rfl rfl (tw W_693) kv0 dX12_findClimb_133 ?_
    refine j_iconst E (v := 1) dX12_findClimb_136 (by decide) ?_
    refine j_isub E dX12_findClimb_137 ?_
    refine j_icmp_ge E 210 dX12_findClimb_138 (by decide) (fun c18 => ?_) (fun c18 => ?_)
    · have h := h.1 c18
      refine j_iconst E (v := 1) dX12_findClimb_210 (by decide) ?_
      exact ju_zreturn E EU hc hb (Or.inr rfl) ⟨hx, hZ, hb, _, rfl, (Or.inr rfl), h⟩ dX12_findClimb_211
    · have h := h.2 c18
      refine j_iconst E (v := 1) dX12_findClimb_141 (by decide) ?_
      refine j_istore E 5 [(5, .int (1 : Int32)), (0, .ref v0), (3, .int v3), (4, .int v4)] dX12_findClimb_142 (by decide) rfl ?_
      obtain ⟨n19, h⟩ := h
      refine j_sub [1, 2, 3, 0] rfl ?_
      exact m_X12_findClimb_L144 E EU K131 hK131 n19 v0 v3 v4 (1 : Int32) Z I L hZ hx hc hb kv0 h
set_option maxRecDepth 100000 in
def f_X12_findClimb_b90 (B : Nat × Nat) (K19 : Nat → Int32 → Int32 → Int32 → jZ → jI → jL → Prop) (Q : Int32 → jZ → jI → jL → Prop) (v0 : Nat) (v1 : Int32) (v2 : Int32) (v3 : Int32) (Z : jZ) (I : jI) (L : jL) : Prop := (∀ x20 : Int32, x20 = v3 + 1 → K19 v0 v1 v2 x20 Z I L)
set_option maxHeartbeats 4000000 in
set_option maxRecDepth 100000 in
theorem m_X12_findClimb_b90 {G : jG} {B : Nat × Nat} {Z0 : jZ} {Q : Int32 → jZ → jI → jL → Prop} (E : jE G cX12_findClimb RX12 w_X12_findClimb 6 (some .boolean) (jrm B 106 2564 Z0) jRF) (EU : jEU G B Z0 (urtZ B Z0 Q)) (K19 : Nat → Int32 → Int32 → Int32 → jZ → jI → jL → Prop) (hK19 : ∀ (v0 : Nat) (v1 : Int32) (v2 : Int32) (v3 : Int32) (Z : jZ) (I : jI) (L : jL), SH Z → jext Z0 Z → jle Z0 Z → jin B Z → jk Z v0 12 → K19 v0 v1 v2 v3 Z I L → jJ G 6 19 [(0, .ref v0), (1, .int v1), (2, .int v2), (3, .int v3)] [] Z I L (jcz Z - jcz Z0) (jsz Z - jsz Z0)) (v0 : Nat) (v1 : Int32) (v2 : Int32) (v3 : Int32) (Z : jZ) (I : jI) (L : jL) (hZ : SH Z) (hx : jext Z0 Z) (hc : jle Z0 Z) (hb : jin B Z) (kv0 : jk Z v0 12) (h : f_X12_findClimb_b90 B K19 Q v0 v1 v2 v3 Z I L) : jJ G 6 90 [(0, .ref v0), (1, .int v1), (2, .int v2), (3, .int v3)] [] Z I L (jcz Z - jcz Z0) (jsz Z - jsz Z0) := by
  obtain ⟨x20, ex20⟩ : ∃ y : Int32, y = v3 + 1 := ⟨_, rfl⟩
  have h := h x20 ex20
  refine j_iinc E x20 [(3, .int x20), (0, .ref v0), (1, .int v1), (2, .int v2)] dX12_findClimb_90 3 rfl (by rw [ex20]; rfl) (by decide) rfl ?_
  refine j_goto E 19 dX12_findClimb_93 (by decide) ?_
  refine j_sub [1, 2, 3, 0] rfl ?_
  exact hK19 v0 v1 v2 x20 Z I L hZ hx hc hb kv0 h
set_option maxRecDepth 100000 in
def f_X12_findClimb_b88 (B : Nat × Nat) (K19 : Nat → Int32 → Int32 → Int32 → jZ → jI → jL → Prop) (Q : Int32 → jZ → jI → jL → Prop) (v0 : Nat) (v1 : Int32) (v3 : Int32) (Z : jZ) (I : jI) (L : jL) : Prop := f_X12_findClimb_b90 B K19 Q v0 v1 v3 v3 Z I L
set_option maxHeartbeats 4000000 in
set_option maxRecDepth 100000 in
theorem m_X12_findClimb_b88 {G : jG} {B : Nat × Nat} {Z0 : jZ} {Q : Int32 → jZ → jI → jL → Prop} (E : jE G cX12_findClimb RX12 w_X12_findClimb 6 (some .boolean) (jrm B 106 2564 Z0) jRF) (EU : jEU G B Z0 (urtZ B Z0 Q)) (K19 : Nat → Int32 → Int32 → Int32 → jZ → jI → jL → Prop) (hK19 : ∀ (v0 : Nat) (v1 : Int32) (v2 : Int32) (v3 : Int32) (Z : jZ) (I : jI) (L : jL), SH Z → jext Z0 Z → jle Z0 Z → jin B Z → jk Z v0 12 → K19 v0 v1 v2 v3 Z I L → jJ G 6 19 [(0, .ref v0), (1, .int v1), (2, .int v2), (3, .int v3)] [] Z I L (jcz Z - jcz Z0) (jsz Z - jsz Z0)) (v0 : Nat) (v1 : Int32) (v3 : Int32) (Z : jZ) (I : jI) (L : jL) (hZ : SH Z) (hx : jext Z0 Z) (hc : jle Z0 Z) (hb : jin B Z) (kv0 : jk Z v0 12) (h : f_X12_findClimb_b88 B K19 Q v0 v1 v3 Z I L) : jJ G 6 88 [(0, .ref v0), (1, .int v1), (3, .int v3)] [] Z I L (jcz Z - jcz Z0) (jsz Z - jsz Z0) := by
  refine j_iload_n E dX12_findClimb_88 2 rfl ?_
  refine j_istore_n E 2 [(2, .int v3), (0, .ref v0), (1, .int v1), (3, .int v3)] dX12_findClimb_89 rfl (by decide) rfl ?_
  refine j_sub [1, 2, 0, 3] rfl ?_
  exact m_X12_findClimb_b90 E EU K19 hK19 v0 v1 v3 v3 Z I L hZ hx hc hb kv0 h
set_option maxRecDepth 100000 in
def f_X12_findClimb_L19 (B : Nat × Nat)  (Q : Int32 → jZ → jI → jL → Prop) : Nat → Nat → Int32 → Int32 → Int32 → jZ → jI → jL → Prop
  | 0 => fun _ _ _ _ _ _ _ => False
  | n + 1 => fun v0 v1 v2 v3 Z I L => (∀ b21 : Nat, jr Z v0 9 = some b21 → (vp_in v1 6 ∧ (((I b21 v1.toNatClampNeg) < v3 → ((¬ v2 = (-1 : Int32) → (∀ b25 : Nat, jr Z v0 40 = some b25 → (vp_in v2 25000 ∧ (∀ I27 : jI, I27 = jpI I v0 41 ((I b25 v2.toNatClampNeg) / (100 : Int32)) → (∀ I28 : jI, I28 = jpI I27 v0 42 v2 → (∀ I29 : jI, I29 = jpI I28 v0 43 (0 : Int32) → (∃ m131 : Nat, f_X12_findClimb_L131 B  Q m131 v0 (-1 : Int32) v2 Z I29 L))))))) ∧ (v2 = (-1 : Int32) → Q (0 : Int32) Z I L))) ∧ (¬ ((I b21 v1.toNatClampNeg) < v3) → (∀ b31 : Nat, jr Z v0 40 = some b31 → (vp_in v3 25000 ∧ (((I b31 v3.toNatClampNeg) = (1000000000 : Int32) → f_X12_findClimb_b90 B (f_X12_findClimb_L19 B Q n) Q v0 v1 v2 v3 Z I L) ∧ (¬ ((I b31 v3.toNatClampNeg) = (1000000000 : Int32)) → (∀ b34 : Nat, jr Z v0 40 = some b34 → (vp_in v3 25000 ∧ (∀ b36 : Nat, jr Z v0 10 = some b36 → (vp_in v1 6 ∧ ((((I b34 v3.toNatClampNeg) / (100 : Int32)) ≤ (I b36 v1.toNatClampNeg) → ((v2 = (-1 : Int32) → f_X12_findClimb_b88 B (f_X12_findClimb_L19 B Q n) Q v0 v1 v3 Z I L) ∧ (¬ (v2 = (-1 : Int32)) → (∀ b40 : Nat, jr Z v0 40 = some b40 → (vp_in v3 25000 ∧ (∀ b42 : Nat, jr Z v0 40 = some b42 → (vp_in v2 25000 ∧ ((((I b42 v2.toNatClampNeg) / (100 : Int32)) ≤ ((I b40 v3.toNatClampNeg) / (100 : Int32)) → f_X12_findClimb_b90 B (f_X12_findClimb_L19 B Q n) Q v0 v1 v2 v3 Z I L) ∧ (¬ (((I b42 v2.toNatClampNeg) / (100 : Int32)) ≤ ((I b40 v3.toNatClampNeg) / (100 : Int32))) → f_X12_findClimb_b88 B (f_X12_findClimb_L19 B Q n) Q v0 v1 v3 Z I L))))))))) ∧ (¬ (((I b34 v3.toNatClampNeg) / (100 : Int32)) ≤ (I b36 v1.toNatClampNeg)) → f_X12_findClimb_b90 B (f_X12_findClimb_L19 B Q n) Q v0 v1 v2 v3 Z I L))))))))))))))
set_option maxHeartbeats 4000000 in
set_option maxRecDepth 100000 in
theorem m_X12_findClimb_L19 {G : jG} {Z0 : jZ} {B : Nat × Nat} {Q : Int32 → jZ → jI → jL → Prop} (E : jE G cX12_findClimb RX12 w_X12_findClimb 6 (some .boolean) (jrm B 106 2564 Z0) jRF) (EU : jEU G B Z0 (urtZ B Z0 Q))  : ∀ (n : Nat) (v0 : Nat) (v1 : Int32) (v2 : Int32) (v3 : Int32) (Z : jZ) (I : jI) (L : jL), SH Z → jext Z0 Z → jle Z0 Z → jin B Z → jk Z v0 12 → f_X12_findClimb_L19 B  Q n v0 v1 v2 v3 Z I L → jJ G 6 19 [(0, .ref v0), (1, .int v1), (2, .int v2), (3, .int v3)] [] Z I L (jcz Z - jcz Z0) (jsz Z - jsz Z0) := by
  intro n
  induction n with
  | zero => intro v0 v1 v2 v3 Z I L _ _ _ _ _ h; exact h.elim
  | succ n ih =>
    intro v0 v1 v2 v3 Z I L hZ hx hc hb kv0 h
    have h : (∀ b21 : Nat, jr Z v0 9 = some b21 → (vp_in v1 6 ∧ (((I b21 v1.toNatClampNeg) < v3 → ((¬ v2 = (-1 : Int32) → (∀ b25 : Nat, jr Z v0 40 = some b25 → (vp_in v2 25000 ∧ (∀ I27 : jI, I27 = jpI I v0 41 ((I b25 v2.toNatClampNeg) / (100 : Int32)) → (∀ I28 : jI, I28 = jpI I27 v0 42 v2 → (∀ I29 : jI, I29 = jpI I28 v0 43 (0 : Int32) → (∃ m131 : Nat, f_X12_findClimb_L131 B  Q m131 v0 (-1 : Int32) v2 Z I29 L))))))) ∧ (v2 = (-1 : Int32) → Q (0 : Int32) Z I L))) ∧ (¬ ((I b21 v1.toNatClampNeg) < v3) → (∀ b31 : Nat, jr Z v0 40 = some b31 → (vp_in v3 25000 ∧ (((I b31 v3.toNatClampNeg) = (1000000000 : Int32) → f_X12_findClimb_b90 B (f_X12_findClimb_L19 B Q n) Q v0 v1 v2 v3 Z I L) ∧ (¬ ((I b31 v3.toNatClampNeg) = (1000000000 : Int32)) → (∀ b34 : Nat, jr Z v0 40 = some b34 → (vp_in v3 25000 ∧ (∀ b36 : Nat, jr Z v0 10 = some b36 → (vp_in v1 6 ∧ ((((I b34 v3.toNatClampNeg) / (100 : Int32)) ≤ (I b36 v1.toNatClampNeg) → ((v2 = (-1 : Int32) → f_X12_findClimb_b88 B (f_X12_findClimb_L19 B Q n) Q v0 v1 v3 Z I L) ∧ (¬ (v2 = (-1 : Int32)) → (∀ b40 : Nat, jr Z v0 40 = some b40 → (vp_in v3 25000 ∧ (∀ b42 : Nat, jr Z v0 40 = some b42 → (vp_in v2 25000 ∧ ((((I b42 v2.toNatClampNeg) / (100 : Int32)) ≤ ((I b40 v3.toNatClampNeg) / (100 : Int32)) → f_X12_findClimb_b90 B (f_X12_findClimb_L19 B Q n) Q v0 v1 v2 v3 Z I L) ∧ (¬ (((I b42 v2.toNatClampNeg) / (100 : Int32)) ≤ ((I b40 v3.toNatClampNeg) / (100 : Int32))) → f_X12_findClimb_b88 B (f_X12_findClimb_L19 B Q n) Q v0 v1 v3 Z I L))))))))) ∧ (¬ (((I b34 v3.toNatClampNeg) / (100 : Int32)) ≤ (I b36 v1.toNatClampNeg)) → f_X12_findClimb_b90 B (f_X12_findClimb_L19 B Q n) Q v0 v1 v2 v3 Z I L)))))))))))))) := h
    obtain ⟨K19, eK19⟩ : ∃ K : Nat → Int32 → Int32 → Int32 → jZ → jI → jL → Prop, K = f_X12_findClimb_L19 B  Q n := ⟨_, rfl⟩
    have hK19 := ih
    clear eK19 K19
    generalize f_X12_findClimb_L19 B  Q n = K19 at hK19 h
    refine j_iload_n E dX12_findClimb_19 3 rfl ?_
    refine j_aload_n E dX12_findClimb_20 0 rfl ?_
    obtain ⟨b21, eb21, kb21, lb21⟩ := sh_f hZ kv0 (j := 9) (k := 14) (m := 6) rfl
    have h := h b21 eb21
    refine j_getr E 12 9 rfl rfl (by decide) (by decide) (iw iT_12) rfl rfl (tw W_734) kv0 eb21 dX12_findClimb_21 ?_
    refine j_iload_n E dX12_findClimb_24 1 rfl ?_
    obtain ⟨o22, h⟩ := h
    refine j_iald E kb21 (by rw [lb21]; exact o22) dX12_findClimb_25 ?_
    refine j_icmp_gt E 96 dX12_findClimb_26 (by decide) (fun c23 => ?_) (fun c23 => ?_)
    · have h := h.1 c23
      refine j_iload_n E dX12_findClimb_96 2 rfl ?_
      refine j_iconst E (v := -1) dX12_findClimb_97 (by decide) ?_
      refine j_icmp_ne E 103 dX12_findClimb_98 (by decide) (fun c24 => ?_) (fun c24 => ?_)
      · have h := h.1 c24
        refine j_aload_n E dX12_findClimb_103 0 rfl ?_
        refine j_aload_n E dX12_findClimb_104 0 rfl ?_
        obtain ⟨b25, eb25, kb25, lb25⟩ := sh_f hZ kv0 (j := 40) (k := 14) (m := 25000) rfl
        have h := h b25 eb25
        refine j_getr E 12 40 rfl rfl (by decide) (by decide) (iw iT_12) rfl rfl (tw W_846) kv0 eb25 dX12_findClimb_105 ?_
        refine j_iload_n E dX12_findClimb_108 2 rfl ?_
        obtain ⟨o26, h⟩ := h
        refine j_iald E kb25 (by rw [lb25]; exact o26) dX12_findClimb_109 ?_
        refine j_bipush E (v := 100) dX12_findClimb_110 (by decide) ?_
        refine j_idiv E dX12_findClimb_112 (by decide) ?_
        refine j_puti E 12 41 rfl rfl (by decide) (by decide) (iw iT_12) tyX12_ok nmX12 rfl rfl (tw W_853) rfl rfl rfl kv0 dX12_findClimb_113 ?_
        refine j_nmI (fun I27 eI27 => ?_)
        have h := h I27 eI27
        refine j_aload_n E dX12_findClimb_116 0 rfl ?_
        refine j_iload_n E dX12_findClimb_117 2 rfl ?_
        refine j_puti E 12 42 rfl rfl (by decide) (by decide) (iw iT_12) tyX12_ok nmX12 rfl rfl (tw W_854) rfl rfl rfl kv0 dX12_findClimb_118 ?_
        refine j_nmI (fun I28 eI28 => ?_)
        have h := h I28 eI28
        refine j_aload_n E dX12_findClimb_121 0 rfl ?_
        refine j_iconst E (v := 0) dX12_findClimb_122 (by decide) ?_
        refine j_puti E 12 43 rfl rfl (by decide) (by decide) (iw iT_12) tyX12_ok nmX12 rfl rfl (tw W_852) rfl rfl rfl kv0 dX12_findClimb_123 ?_
        refine j_nmI (fun I29 eI29 => ?_)
        have h := h I29 eI29
        refine j_iconst E (v := -1) dX12_findClimb_126 (by decide) ?_
        refine j_istore_n E 3 [(3, .int (-1 : Int32)), (0, .ref v0), (1, .int v1), (2, .int v2)] dX12_findClimb_127 rfl (by decide) rfl ?_
        refine j_iload_n E dX12_findClimb_128 3 rfl ?_
        refine j_istore E 4 [(4, .int v2), (3, .int (-1 : Int32)), (0, .ref v0), (1, .int v1), (2, .int v2)] dX12_findClimb_129 (by decide) rfl ?_
        obtain ⟨n30, h⟩ := h
        refine j_sub [2, 1, 0] rfl ?_
        exact m_X12_findClimb_L131 E EU  n30 v0 (-1 : Int32) v2 Z I29 L hZ hx hc hb kv0 h
      · have h := h.2 c24
        refine j_iconst E (v := 0) dX12_findClimb_101 (by decide) ?_
        exact ju_zreturn E EU hc hb (Or.inl rfl) ⟨hx, hZ, hb, _, rfl, (Or.inl rfl), h⟩ dX12_findClimb_102
    · have h := h.2 c23
      refine j_aload_n E dX12_findClimb_29 0 rfl ?_
      obtain ⟨b31, eb31, kb31, lb31⟩ := sh_f hZ kv0 (j := 40) (k := 14) (m := 25000) rfl
      have h := h b31 eb31
      refine j_getr E 12 40 rfl rfl (by decide) (by decide) (iw iT_12) rfl rfl (tw W_846) kv0 eb31 dX12_findClimb_30 ?_
      refine j_iload_n E dX12_findClimb_33 3 rfl ?_
      obtain ⟨o32, h⟩ := h
      refine j_iald E kb31 (by rw [lb31]; exact o32) dX12_findClimb_34 ?_
      refine j_ldcw E (tw W_843) dX12_findClimb_35 ?_
      refine j_icmp_eq E 90 dX12_findClimb_38 (by decide) (fun c33 => ?_) (fun c33 => ?_)
      · have h := h.1 c33
        refine j_sub [0, 1, 2, 3] rfl ?_
        exact m_X12_findClimb_b90 E EU K19 hK19 v0 v1 v2 v3 Z I L hZ hx hc hb kv0 h
      · have h := h.2 c33
        refine j_aload_n E dX12_findClimb_41 0 rfl ?_
        obtain ⟨b34, eb34, kb34, lb34⟩ := sh_f hZ kv0 (j := 40) (k := 14) (m := 25000) rfl
        have h := h b34 eb34
        refine j_getr E 12 40 rfl rfl (by decide) (by decide) (iw iT_12) rfl rfl (tw W_846) kv0 eb34 dX12_findClimb_42 ?_
        refine j_iload_n E dX12_findClimb_45 3 rfl ?_
        obtain ⟨o35, h⟩ := h
        refine j_iald E kb34 (by rw [lb34]; exact o35) dX12_findClimb_46 ?_
        refine j_bipush E (v := 100) dX12_findClimb_47 (by decide) ?_
        refine j_idiv E dX12_findClimb_49 (by decide) ?_
        refine j_aload_n E dX12_findClimb_50 0 rfl ?_
        obtain ⟨b36, eb36, kb36, lb36⟩ := sh_f hZ kv0 (j := 10) (k := 14) (m := 6) rfl
        have h := h b36 eb36
        refine j_getr E 12 10 rfl rfl (by decide) (by decide) (iw iT_12) rfl rfl (tw W_736) kv0 eb36 dX12_findClimb_51 ?_
        refine j_iload_n E dX12_findClimb_54 1 rfl ?_
        obtain ⟨o37, h⟩ := h
        refine j_iald E kb36 (by rw [lb36]; exact o37) dX12_findClimb_55 ?_
        refine j_icmp_le E 62 dX12_findClimb_56 (by decide) (fun c38 => ?_) (fun c38 => ?_)
        · have h := h.1 c38
          refine j_iload_n E dX12_findClimb_62 2 rfl ?_
          refine j_iconst E (v := -1) dX12_findClimb_63 (by decide) ?_
          refine j_icmp_eq E 88 dX12_findClimb_64 (by decide) (fun c39 => ?_) (fun c39 => ?_)
          · have h := h.1 c39
            refine j_sub [0, 1, 3] rfl ?_
            exact m_X12_findClimb_b88 E EU K19 hK19 v0 v1 v3 Z I L hZ hx hc hb kv0 h
          · have h := h.2 c39
            refine j_aload_n E dX12_findClimb_67 0 rfl ?_
            obtain ⟨b40, eb40, kb40, lb40⟩ := sh_f hZ kv0 (j := 40) (k := 14) (m := 25000) rfl
            have h := h b40 eb40
            refine j_getr E 12 40 rfl rfl (by decide) (by decide) (iw iT_12) rfl rfl (tw W_846) kv0 eb40 dX12_findClimb_68 ?_
            refine j_iload_n E dX12_findClimb_71 3 rfl ?_
            obtain ⟨o41, h⟩ := h
            refine j_iald E kb40 (by rw [lb40]; exact o41) dX12_findClimb_72 ?_
            refine j_bipush E (v := 100) dX12_findClimb_73 (by decide) ?_
            refine j_idiv E dX12_findClimb_75 (by decide) ?_
            refine j_aload_n E dX12_findClimb_76 0 rfl ?_
            obtain ⟨b42, eb42, kb42, lb42⟩ := sh_f hZ kv0 (j := 40) (k := 14) (m := 25000) rfl
            have h := h b42 eb42
            refine j_getr E 12 40 rfl rfl (by decide) (by decide) (iw iT_12) rfl rfl (tw W_846) kv0 eb42 dX12_findClimb_77 ?_
            refine j_iload_n E dX12_findClimb_80 2 rfl ?_
            obtain ⟨o43, h⟩ := h
            refine j_iald E kb42 (by rw [lb42]; exact o43) dX12_findClimb_81 ?_
            refine j_bipush E (v := 100) dX12_findClimb_82 (by decide) ?_
            refine j_idiv E dX12_findClimb_84 (by decide) ?_
            refine j_icmp_ge E 90 dX12_findClimb_85 (by decide) (fun c44 => ?_) (fun c44 => ?_)
            · have h := h.1 c44
              refine j_sub [0, 1, 2, 3] rfl ?_
              exact m_X12_findClimb_b90 E EU K19 hK19 v0 v1 v2 v3 Z I L hZ hx hc hb kv0 h
            · have h := h.2 c44
              refine j_sub [0, 1, 3] rfl ?_
              exact m_X12_findClimb_b88 E EU K19 hK19 v0 v1 v3 Z I L hZ hx hc hb kv0 h
        · have h := h.2 c38
          refine j_goto E 90 dX12_findClimb_59 (by decide) ?_
          refine j_sub [0, 1, 2, 3] rfl ?_
          exact m_X12_findClimb_b90 E EU K19 hK19 v0 v1 v2 v3 Z I L hZ hx hc hb kv0 h
set_option maxRecDepth 100000 in
def f_X12_findClimb (B : Nat × Nat) (v0 : Nat) (v1 : Int32) (Z : jZ) (I : jI) (L : jL) (Q : Int32 → jZ → jI → jL → Prop) : Prop := (f_X12_layMoves B v0 v1 Z I L (fun Z46 I47 L48 => (∀ b52 : Nat, jr Z46 v0 9 = some b52 → (vp_in v1 6 ∧ (f_X12_findByEffort v0 (I47 b52 v1.toNatClampNeg) Z46 I47 L48 (fun I56 L57 => (∃ m19 : Nat, f_X12_findClimb_L19 B  Q m19 v0 v1 (-1 : Int32) (0 : Int32) Z46 I56 L57)))))))
set_option maxHeartbeats 4000000 in
set_option maxRecDepth 100000 in
theorem c_X12_findClimb (l : Launch) (D : va_G) (cy : jC) (B : Nat × Nat) (v0 : Nat) (v1 : Int32) (Z : jZ) (I : jI) (L : jL) (Q : Int32 → jZ → jI → jL → Prop) (hZ : SH Z) (hb : jin B Z) (kv0 : jk Z v0 12) (h : f_X12_findClimb B v0 v1 Z I L Q) : jCtU l yX12_findClimb w_X12_findClimb B 106 2564 D cy [.ref v0, .int v1] Z I L (urtZ B Z Q) := by
  refine jCtU_of (cc := cX12_findClimb) (maxL := 6) (ret := (some .boolean)) (by decide +kernel) rfl (Nat.le_of_ble_eq_true rfl) ?_
  intro G eD eY eL E EU
  subst eD; subst eY; subst eL
  have E : jE G cX12_findClimb RX12 w_X12_findClimb 6 (some .boolean) (jrm B 106 2564 Z) jRF := E
  have hx : jext Z Z := jext_rfl
  have hc : jle Z Z := jle_rfl
  show jJ G 6 0 [(0, .ref v0), (1, .int v1)] [] Z I L (jcz Z - jcz Z) (jsz Z - jsz Z)
  refine j_aload_n E dX12_findClimb_0 0 rfl ?_
  refine j_iload_n E dX12_findClimb_1 1 rfl ?_
  refine ju_callV E [.int v1] [] (c_X12_layMoves (gL G) (gD G) (gY G) B v0 v1 Z I L _ hZ hb kv0 h) (gwV W_856 W_857 W_858 W_695 W_855) rfl ⟨rfl, fy_X12_layMoves⟩ ⟨Nat.le_of_ble_eq_true rfl, Nat.le_of_ble_eq_true rfl⟩ (c := 12) rfl (by decide) kv0 rfl rfl (Nat.le_of_ble_eq_true rfl) (ju_f hc hb) dX12_findClimb_2 (fun v45 Z46 I47 L48 q49 j50 => ?_)
  refine ju_next hc j50 ?_
  have hc := jle_trans hc j50
  obtain ⟨yZ46, hZ46, hbZ46, rfl, h⟩ := q49
  have hZ := hZ46
  have hx : jext Z Z46 := jext_trans hx yZ46
  have hb := hbZ46
  have k51 := (yZ46 _ _ kv0).1
  show jJ G 6 5 [(0, .ref v0), (1, .int v1)] [] Z46 I47 L48 (jcz Z46 - jcz Z) (jsz Z46 - jsz Z)
  refine j_aload_n E dX12_findClimb_5 0 rfl ?_
  refine j_aload_n E dX12_findClimb_6 0 rfl ?_
  obtain ⟨b52, eb52, kb52, lb52⟩ := sh_f hZ k51 (j := 9) (k := 14) (m := 6) rfl
  have h := h b52 eb52
  refine j_getr E 12 9 rfl rfl (by decide) (by decide) (iw iT_12) rfl rfl (tw W_734) k51 eb52 dX12_findClimb_7 ?_
  refine j_iload_n E dX12_findClimb_10 1 rfl ?_
  obtain ⟨o53, h⟩ := h
  refine j_iald E kb52 (by rw [lb52]; exact o53) dX12_findClimb_11 ?_
  refine j_callV E [.int (I47 b52 v1.toNatClampNeg)] [] (c_X12_findByEffort (gL G) (gD G) (gY G) v0 (I47 b52 v1.toNatClampNeg) Z46 I47 L48 _ hZ k51 h) (gwV W_860 W_861 W_862 W_695 W_859) rfl ⟨rfl, fy_X12_findByEffort⟩ ⟨Nat.le_of_ble_eq_true rfl, Nat.le_of_ble_eq_true rfl⟩ (c := 12) rfl (by decide) k51 rfl rfl (Nat.le_of_ble_eq_true rfl) (ju_kn hb) dX12_findClimb_12 (fun v54 Z55 I56 L57 q58 => ?_)
  obtain ⟨rfl, rfl, h⟩ := q58
  show jJ G 6 15 [(0, .ref v0), (1, .int v1)] [] Z46 I56 L57 (jcz Z46 - jcz Z) (jsz Z46 - jsz Z)
  refine j_iconst E (v := -1) dX12_findClimb_15 (by decide) ?_
  refine j_istore_n E 2 [(2, .int (-1 : Int32)), (0, .ref v0), (1, .int v1)] dX12_findClimb_16 rfl (by decide) rfl ?_
  refine j_iconst E (v := 0) dX12_findClimb_17 (by decide) ?_
  refine j_istore_n E 3 [(3, .int (0 : Int32)), (2, .int (-1 : Int32)), (0, .ref v0), (1, .int v1)] dX12_findClimb_18 rfl (by decide) rfl ?_
  obtain ⟨n60, h⟩ := h
  refine j_sub [2, 3, 1, 0] rfl ?_
  exact m_X12_findClimb_L19 E EU  n60 v0 v1 (-1 : Int32) (0 : Int32) Z46 I56 L57 hZ hx hc hb k51 h
set_option maxRecDepth 100000 in
def f_X12_climb_L58 (B : Nat × Nat)  (Q : Int32 → jZ → jI → jL → Prop) : Nat → Nat → Int32 → jZ → jI → jL → Prop
  | 0 => fun _ _ _ _ _ => False
  | n + 1 => fun v0 v2 Z I L => (((I v0 43) ≤ v2 → Q (I v0 41) Z I L) ∧ (¬ ((I v0 43) ≤ v2) → (∀ b2 : Nat, jr Z v0 44 = some b2 → (vp_in v2 24 ∧ (f_X12_tell v0 ((I b2 v2.toNatClampNeg).toInt64) Z I L (fun I6 L7 => (∀ x10 : Int32, x10 = v2 + 1 → (f_X12_climb_L58 B Q n) v0 x10 Z I6 L7)))))))
set_option maxHeartbeats 4000000 in
set_option maxRecDepth 100000 in
theorem m_X12_climb_L58 {G : jG} {Z0 : jZ} {B : Nat × Nat} {Q : Int32 → jZ → jI → jL → Prop} (E : jE G cX12_climb RX12 w_X12_climb 3 (some .int) (jrm B 107 2589 Z0) jRF) (EU : jEU G B Z0 (urtI B Z0 Q))  : ∀ (n : Nat) (v0 : Nat) (v2 : Int32) (Z : jZ) (I : jI) (L : jL), SH Z → jext Z0 Z → jle Z0 Z → jin B Z → jk Z v0 12 → f_X12_climb_L58 B  Q n v0 v2 Z I L → jJ G 3 58 [(0, .ref v0), (2, .int v2)] [] Z I L (jcz Z - jcz Z0) (jsz Z - jsz Z0) := by
  intro n
  induction n with
  | zero => intro v0 v2 Z I L _ _ _ _ _ h; exact h.elim
  | succ n ih =>
    intro v0 v2 Z I L hZ hx hc hb kv0 h
    have h : (((I v0 43) ≤ v2 → Q (I v0 41) Z I L) ∧ (¬ ((I v0 43) ≤ v2) → (∀ b2 : Nat, jr Z v0 44 = some b2 → (vp_in v2 24 ∧ (f_X12_tell v0 ((I b2 v2.toNatClampNeg).toInt64) Z I L (fun I6 L7 => (∀ x10 : Int32, x10 = v2 + 1 → (f_X12_climb_L58 B Q n) v0 x10 Z I6 L7))))))) := h
    obtain ⟨K58, eK58⟩ : ∃ K : Nat → Int32 → jZ → jI → jL → Prop, K = f_X12_climb_L58 B  Q n := ⟨_, rfl⟩
    have hK58 := ih
    clear eK58 K58
    generalize f_X12_climb_L58 B  Q n = K58 at hK58 h
    refine j_iload_n E dX12_climb_58 1 rfl ?_
    refine j_aload_n E dX12_climb_59 0 rfl ?_
    refine j_geti E 12 43 rfl rfl (by decide) (by decide) (iw iT_12) rfl rfl (tw W_852) kv0 dX12_climb_60 ?_
    refine j_icmp_ge E 83 dX12_climb_63 (by decide) (fun c1 => ?_) (fun c1 => ?_)
    · have h := h.1 c1
      refine j_aload_n E dX12_climb_83 0 rfl ?_
      refine j_geti E 12 41 rfl rfl (by decide) (by decide) (iw iT_12) rfl rfl (tw W_853) kv0 dX12_climb_84 ?_
      exact ju_ireturn E EU hc hb ⟨hx, hZ, hb, _, rfl, h⟩ dX12_climb_87
    · have h := h.2 c1
      refine j_aload_n E dX12_climb_66 0 rfl ?_
      refine j_aload_n E dX12_climb_67 0 rfl ?_
      obtain ⟨b2, eb2, kb2, lb2⟩ := sh_f hZ kv0 (j := 44) (k := 14) (m := 24) rfl
      have h := h b2 eb2
      refine j_getr E 12 44 rfl rfl (by decide) (by decide) (iw iT_12) rfl rfl (tw W_851) kv0 eb2 dX12_climb_68 ?_
      refine j_iload_n E dX12_climb_71 1 rfl ?_
      obtain ⟨o3, h⟩ := h
      refine j_iald E kb2 (by rw [lb2]; exact o3) dX12_climb_72 ?_
      refine j_i2l E dX12_climb_73 ?_
      refine j_callV E [.long ((I b2 v2.toNatClampNeg).toInt64)] [] (c_X12_tell (gL G) (gD G) (gY G) v0 ((I b2 v2.toNatClampNeg).toInt64) Z I L _ hZ kv0 h) (gwV W_820 W_821 W_822 W_695 W_819) rfl ⟨rfl, fy_X12_tell⟩ ⟨Nat.le_of_ble_eq_true rfl, Nat.le_of_ble_eq_true rfl⟩ (c := 12) rfl (by decide) kv0 rfl rfl (Nat.le_of_ble_eq_true rfl) (ju_kn hb) dX12_climb_74 (fun v4 Z5 I6 L7 q8 => ?_)
      obtain ⟨rfl, rfl, h⟩ := q8
      show jJ G 3 77 [(0, .ref v0), (2, .int v2)] [] Z I6 L7 (jcz Z - jcz Z0) (jsz Z - jsz Z0)
      obtain ⟨x10, ex10⟩ : ∃ y : Int32, y = v2 + 1 := ⟨_, rfl⟩
      have h := h x10 ex10
      refine j_iinc E x10 [(2, .int x10), (0, .ref v0)] dX12_climb_77 1 rfl (by rw [ex10]; rfl) (by decide) rfl ?_
      refine j_goto E 58 dX12_climb_80 (by decide) ?_
      refine j_sub [1, 0] rfl ?_
      exact hK58 v0 x10 Z I6 L7 hZ hx hc hb kv0 h
set_option maxRecDepth 100000 in
def f_X12_climb (B : Nat × Nat) (v0 : Nat) (v1 : Int32) (Z : jZ) (I : jI) (L : jL) (Q : Int32 → jZ → jI → jL → Prop) : Prop := (∀ I11 : jI, I11 = jpI I v0 22 (0 : Int32) → (f_X12_isOne v0 v1 Z I11 L (fun r18 I14 L15 => ((r18 = 0 → Q (-1 : Int32) Z I14 L15) ∧ (¬ (r18 = 0) → ((¬ (I14 v0 0) = 0 → (f_X12_findClimb B v0 v1 Z I14 L15 (fun r27 Z22 I23 L24 => ((¬ r27 = 0 → (∀ I30 : jI, I30 = jpI I23 v0 21 (0 : Int32) → (f_X12_tell v0 ((I30 v0 42).toInt64) Z22 I30 L24 (fun I33 L34 => (f_X12_tell v0 ((I33 v0 43).toInt64) Z22 I33 L34 (fun I39 L40 => (∃ m58 : Nat, f_X12_climb_L58 B  Q m58 v0 (0 : Int32) Z22 I39 L40))))))) ∧ (r27 = 0 → Q (-2 : Int32) Z22 I23 L24))))) ∧ ((I14 v0 0) = 0 → Q (-1 : Int32) Z I14 L15)))))))
set_option maxHeartbeats 4000000 in
set_option maxRecDepth 100000 in
theorem c_X12_climb (l : Launch) (D : va_G) (cy : jC) (B : Nat × Nat) (v0 : Nat) (v1 : Int32) (Z : jZ) (I : jI) (L : jL) (Q : Int32 → jZ → jI → jL → Prop) (hZ : SH Z) (hb : jin B Z) (kv0 : jk Z v0 12) (h : f_X12_climb B v0 v1 Z I L Q) : jCtU l yX12_climb w_X12_climb B 107 2589 D cy [.ref v0, .int v1] Z I L (urtI B Z Q) := by
  refine jCtU_of (cc := cX12_climb) (maxL := 3) (ret := (some .int)) (by decide +kernel) rfl (Nat.le_of_ble_eq_true rfl) ?_
  intro G eD eY eL E EU
  subst eD; subst eY; subst eL
  have E : jE G cX12_climb RX12 w_X12_climb 3 (some .int) (jrm B 107 2589 Z) jRF := E
  have hx : jext Z Z := jext_rfl
  have hc : jle Z Z := jle_rfl
  show jJ G 3 0 [(0, .ref v0), (1, .int v1)] [] Z I L (jcz Z - jcz Z) (jsz Z - jsz Z)
  refine j_aload_n E dX12_climb_0 0 rfl ?_
  refine j_iconst E (v := 0) dX12_climb_1 (by decide) ?_
  refine j_puti E 12 22 rfl rfl (by decide) (by decide) (iw iT_12) tyX12_ok nmX12 rfl rfl (tw W_690) rfl rfl rfl kv0 dX12_climb_2 ?_
  refine j_nmI (fun I11 eI11 => ?_)
  have h := h I11 eI11
  refine j_aload_n E dX12_climb_5 0 rfl ?_
  refine j_iload_n E dX12_climb_6 1 rfl ?_
  refine j_callV E [.int v1] [] (c_X12_isOne (gL G) (gD G) (gY G) v0 v1 Z I11 L _ hZ kv0 h) (gwV W_804 W_805 W_806 W_695 W_803) rfl ⟨rfl, fy_X12_isOne⟩ ⟨Nat.le_of_ble_eq_true rfl, Nat.le_of_ble_eq_true rfl⟩ (c := 12) rfl (by decide) kv0 rfl rfl (Nat.le_of_ble_eq_true rfl) (ju_kn hb) dX12_climb_7 (fun v12 Z13 I14 L15 q16 => ?_)
  obtain ⟨rfl, r18, rfl, zr18, h⟩ := q16
  show jJ G 3 10 [(0, .ref v0), (1, .int v1)] [.int r18] Z I14 L15 (jcz Z - jcz Z) (jsz Z - jsz Z)
  refine j_if_eq E 20 dX12_climb_10 (by decide) (fun c19 => ?_) (fun c19 => ?_)
  · have h := h.1 c19
    refine j_iconst E (v := -1) dX12_climb_20 (by decide) ?_
    exact ju_ireturn E EU hc hb ⟨hx, hZ, hb, _, rfl, h⟩ dX12_climb_21
  · have h := h.2 c19
    refine j_aload_n E dX12_climb_13 0 rfl ?_
    refine j_geti E 12 0 rfl rfl (by decide) (by decide) (iw iT_12) rfl rfl (tw W_693) kv0 dX12_climb_14 ?_
    refine j_if_ne E 22 dX12_climb_17 (by decide) (fun c20 => ?_) (fun c20 => ?_)
    · have h := h.1 c20
      refine j_aload_n E dX12_climb_22 0 rfl ?_
      refine j_iload_n E dX12_climb_23 1 rfl ?_
      refine ju_callV E [.int v1] [] (c_X12_findClimb (gL G) (gD G) (gY G) B v0 v1 Z I14 L15 _ hZ hb kv0 h) (gwV W_864 W_865 W_866 W_695 W_863) rfl ⟨rfl, fy_X12_findClimb⟩ ⟨Nat.le_of_ble_eq_true rfl, Nat.le_of_ble_eq_true rfl⟩ (c := 12) rfl (by decide) kv0 rfl rfl (Nat.le_of_ble_eq_true rfl) (ju_f hc hb) dX12_climb_24 (fun v21 Z22 I23 L24 q25 j26 => ?_)
      refine ju_next hc j26 ?_
      have hc := jle_trans hc j26
      obtain ⟨yZ22, hZ22, hbZ22, r27, rfl, zr27, h⟩ := q25
      have hZ := hZ22
      have hx : jext Z Z22 := jext_trans hx yZ22
      have hb := hbZ22
      have k28 := (yZ22 _ _ kv0).1
      show jJ G 3 27 [(0, .ref v0), (1, .int v1)] [.int r27] Z22 I23 L24 (jcz Z22 - jcz Z) (jsz Z22 - jsz Z)
      refine j_if_ne E 33 dX12_climb_27 (by decide) (fun c29 => ?_) (fun c29 => ?_)
      · have h := h.1 c29
        refine j_aload_n E dX12_climb_33 0 rfl ?_
        refine j_iconst E (v := 0) dX12_climb_34 (by decide) ?_
        refine j_puti E 12 21 rfl rfl (by decide) (by decide) (iw iT_12) tyX12_ok nmX12 rfl rfl (tw W_692) rfl rfl rfl k28 dX12_climb_35 ?_
        refine j_nmI (fun I30 eI30 => ?_)
        have h := h I30 eI30
        refine j_aload_n E dX12_climb_38 0 rfl ?_
        refine j_aload_n E dX12_climb_39 0 rfl ?_
        refine j_geti E 12 42 rfl rfl (by decide) (by decide) (iw iT_12) rfl rfl (tw W_854) k28 dX12_climb_40 ?_
        refine j_i2l E dX12_climb_43 ?_
        refine j_callV E [.long ((I30 v0 42).toInt64)] [] (c_X12_tell (gL G) (gD G) (gY G) v0 ((I30 v0 42).toInt64) Z22 I30 L24 _ hZ k28 h) (gwV W_820 W_821 W_822 W_695 W_819) rfl ⟨rfl, fy_X12_tell⟩ ⟨Nat.le_of_ble_eq_true rfl, Nat.le_of_ble_eq_true rfl⟩ (c := 12) rfl (by decide) k28 rfl rfl (Nat.le_of_ble_eq_true rfl) (ju_kn hb) dX12_climb_44 (fun v31 Z32 I33 L34 q35 => ?_)
        obtain ⟨rfl, rfl, h⟩ := q35
        show jJ G 3 47 [(0, .ref v0), (1, .int v1)] [] Z22 I33 L34 (jcz Z22 - jcz Z) (jsz Z22 - jsz Z)
        refine j_aload_n E dX12_climb_47 0 rfl ?_
        refine j_aload_n E dX12_climb_48 0 rfl ?_
        refine j_geti E 12 43 rfl rfl (by decide) (by decide) (iw iT_12) rfl rfl (tw W_852) k28 dX12_climb_49 ?_
        refine j_i2l E dX12_climb_52 ?_
        refine j_callV E [.long ((I33 v0 43).toInt64)] [] (c_X12_tell (gL G) (gD G) (gY G) v0 ((I33 v0 43).toInt64) Z22 I33 L34 _ hZ k28 h) (gwV W_820 W_821 W_822 W_695 W_819) rfl ⟨rfl, fy_X12_tell⟩ ⟨Nat.le_of_ble_eq_true rfl, Nat.le_of_ble_eq_true rfl⟩ (c := 12) rfl (by decide) k28 rfl rfl (Nat.le_of_ble_eq_true rfl) (ju_kn hb) dX12_climb_53 (fun v37 Z38 I39 L40 q41 => ?_)
        obtain ⟨rfl, rfl, h⟩ := q41
        show jJ G 3 56 [(0, .ref v0), (1, .int v1)] [] Z22 I39 L40 (jcz Z22 - jcz Z) (jsz Z22 - jsz Z)
        refine j_iconst E (v := 0) dX12_climb_56 (by decide) ?_
        refine j_istore_n E 2 [(2, .int (0 : Int32)), (0, .ref v0), (1, .int v1)] dX12_climb_57 rfl (by decide) rfl ?_
        obtain ⟨n43, h⟩ := h
        refine j_sub [1, 0] rfl ?_
        exact m_X12_climb_L58 E EU  n43 v0 (0 : Int32) Z22 I39 L40 hZ hx hc hb k28 h
      · have h := h.2 c29
        refine j_bipush E (v := -2) dX12_climb_30 (by decide) ?_
        exact ju_ireturn E EU hc hb ⟨hx, hZ, hb, _, rfl, h⟩ dX12_climb_32
    · have h := h.2 c20
      refine j_iconst E (v := -1) dX12_climb_20 (by decide) ?_
      exact ju_ireturn E EU hc hb ⟨hx, hZ, hb, _, rfl, h⟩ dX12_climb_21
