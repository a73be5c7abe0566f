set_option maxRecDepth 100000 in
def f_L_row (v0 : Nat) (v1 : Int32) (v2 : Nat) (Z : jZ) (I : jI) (L : jL) (Q : Int32 → jI → jL → Prop) : Prop := (f_X11_row v0 v1 Z I L (fun r2 I3 L4 => (vp_in (0 : Int32) (jlen Z v2) ∧ (∀ L8 : jL, L8 = jpL L4 v2 (0 : Int32).toNatClampNeg r2 → Q (0 : Int32) I3 L8))) (fun I5 L6 => Q (1 : Int32) I5 L6))
set_option maxHeartbeats 4000000 in
set_option maxRecDepth 100000 in
theorem c_L_row (l : Launch) (hl0 : l.stackTraces = false) (D : va_G) (cy : jC) (v0 : Nat) (v1 : Int32) (v2 : Nat) (Z : jZ) (I : jI) (L : jL) (Q : Int32 → jI → jL → Prop) (hZ : SH Z) (kv0 : jk Z v0 11) (kv2 : jk Z v2 15) (h : f_L_row v0 v1 v2 Z I L Q) : jCtH l yL_row w_L_row { frames := 7, cells := 1, slots := 6, locals := 111 } D cy [.ref v0, .int v1, .ref v2] Z I L (rtI Z Q) := by
  refine jCtH_of (cc := cL_row) (maxL := 4) (ret := (some .int)) (by decide +kernel) rfl (Nat.le_of_ble_eq_true rfl) ?_
  intro G eD eY eL E hV htb
  subst eD; subst eY; subst eL
  have E : jE G cL_row RL w_L_row 4 (some .int) { frames := 7, cells := 1, slots := 6, locals := 111 } (rtI Z Q) := E
  show jJ G 4 0 [(0, .ref v0), (1, .int v1), (2, .ref v2)] [] Z I L 0 0
  refine j_aload_n E dL_row_0 2 rfl ?_
  refine j_iconst E (v := 0) dL_row_1 (by decide) ?_
  refine j_aload_n E dL_row_2 0 rfl ?_
  refine j_iload_n E dL_row_3 1 rfl ?_
  refine j_callVX E hV (hh := (0, 8, 11, 13)) htb ⟨by decide, by decide⟩ (by decide) (tw W_952) [.int v1] [.int (0 : Int32), .ref v2] (c_X11_row (gL G) hl0 (gD G) (gY G) v0 v1 Z I L _ _ hZ kv0 h) (gwV W_958 W_959 W_960 W_40 W_957) rfl ⟨rfl, fy_X11_row⟩ ⟨by decide, by decide⟩ (c := 11) rfl (by decide) kv0 rfl rfl (Nat.le_of_ble_eq_true rfl) ⟨by decide, by decide⟩ dL_row_4 (fun v9 Z9 I3 L4 q8 => ?_) (fun q1 Z9 I5 L6 q8 => ?_)
  · obtain ⟨rfl, r2, rfl, h⟩ := q8
    show jJ G 4 7 [(0, .ref v0), (1, .int v1), (2, .ref v2)] [.long r2, .int (0 : Int32), .ref v2] Z I3 L4 1 6
    obtain ⟨o7, h⟩ := h
    refine j_last E kv2 o7 dL_row_7 ?_
    refine j_nmL (fun L8 eL8 => ?_)
    have h := h L8 eL8
    refine j_goto E 14 dL_row_8 (by decide) ?_
    refine j_iconst E (v := 0) dL_row_14 (by decide) ?_
    exact j_ireturn E ⟨rfl, _, rfl, h⟩ (by decide) (by decide) dL_row_15
  · obtain ⟨rfl, h⟩ := q8
    show jJ G 4 11 [(0, .ref v0), (1, .int v1), (2, .ref v2)] [.ref q1] Z I5 L6 1 6
    refine j_astore_n E 3 [(3, .ref q1), (0, .ref v0), (1, .int v1), (2, .ref v2)] dL_row_11 rfl (by decide) rfl ?_
    refine j_iconst E (v := 1) dL_row_12 (by decide) ?_
    exact j_ireturn E ⟨rfl, _, rfl, h⟩ (by decide) (by decide) dL_row_13
set_option maxRecDepth 100000 in
def f_X11_pilgrim_b49  (Q : Int32 → jZ → jI → jL → Prop) (v0 : Nat) (v1 : Int32) (v2 : Int32) (v3 : Int32) (v4 : Int32) (s0 : Int32) (Z : jZ) (I : jI) (L : jL) : Prop := ((s0 = 0 → Q (-1 : Int32) Z I L) ∧ (¬ (s0 = 0) → (((I v0 4) < (6 : Int32) → (∀ b3 : Nat, jr Z v0 3 = some b3 → (∀ q4 : Nat, q4 ∉ Z.1 → ∀ Z5 : jZ, Z5 = jnw Z q4 5 0 → ∀ I6 : jI, I6 = jz0 I q4 → ∀ L7 : jL, L7 = jzL L q4 → (∀ b11 : Nat, jr Z5 v0 2 = some b11 → (f_X5_init q4 b11 v1 v2 v3 v4 Z5 I6 L7 (fun Z13 I14 L15 => (vp_in (I v0 4) 6 ∧ (∀ Z22 : jZ, Z22 = jpR Z13 b3 (I v0 4).toNatClampNeg (some q4) → (∀ I24 : jI, I24 = jpI I14 v0 4 ((I14 v0 4) + (1 : Int32)) → (SH Z22 ∧ Q ((I24 v0 4) - (1 : Int32)) Z22 I24 L15)))))))))) ∧ (¬ ((I v0 4) < (6 : Int32)) → Q (-1 : Int32) Z I L))))
set_option maxHeartbeats 4000000 in
set_option maxRecDepth 100000 in
theorem m_X11_pilgrim_b49 {G : jG} {Z0 : jZ} {Q : Int32 → jZ → jI → jL → Prop} (E : jE G cX11_pilgrim RX11 w_X11_pilgrim 6 (some .int) { frames := 4, cells := 26, slots := 585, locals := 89 } (xrtI Z0 Q))  (v0 : Nat) (v1 : Int32) (v2 : Int32) (v3 : Int32) (v4 : Int32) (s0 : Int32) (Z : jZ) (I : jI) (L : jL) (hZ : SH Z) (hx : jext Z0 Z) (kv0 : jk Z v0 11) (h : f_X11_pilgrim_b49  Q v0 v1 v2 v3 v4 s0 Z I L) : jJ G 6 49 [(0, .ref v0), (1, .int v1), (2, .int v2), (3, .int v3), (4, .int v4)] [.int s0] Z I L 0 0 := by
  refine j_istore E 5 [(5, .int s0), (0, .ref v0), (1, .int v1), (2, .int v2), (3, .int v3), (4, .int v4)] dX11_pilgrim_49 (by decide) rfl ?_
  refine j_iload E dX11_pilgrim_51 0 rfl ?_
  refine j_if_eq E 65 dX11_pilgrim_53 (by decide) (fun c1 => ?_) (fun c1 => ?_)
  · have h := h.1 c1
    refine j_iconst E (v := -1) dX11_pilgrim_65 (by decide) ?_
    exact j_ireturn E ⟨hx, hZ, _, rfl, h⟩ (Nat.zero_le _) (Nat.zero_le _) dX11_pilgrim_66
  · have h := h.2 c1
    refine j_aload_n E dX11_pilgrim_56 1 rfl ?_
    refine j_geti E 11 4 rfl rfl (by decide) (by decide) (iw iT_11) rfl rfl (tw W_431) kv0 dX11_pilgrim_57 ?_
    refine j_bipush E (v := 6) dX11_pilgrim_60 (by decide) ?_
    refine j_icmp_lt E 67 dX11_pilgrim_62 (by decide) (fun c2 => ?_) (fun c2 => ?_)
    · have h := h.1 c2
      refine j_aload_n E dX11_pilgrim_67 1 rfl ?_
      obtain ⟨b3, eb3, kb3, lb3⟩ := sh_f hZ kv0 (j := 3) (k := 18) (m := 6) rfl
      have h := h b3 eb3
      refine j_getr E 11 3 rfl rfl (by decide) (by decide) (iw iT_11) rfl rfl (tw W_432) kv0 eb3 dX11_pilgrim_68 ?_
      refine j_aload_n E dX11_pilgrim_71 1 rfl ?_
      refine j_geti E 11 4 rfl rfl (by decide) (by decide) (iw iT_11) rfl rfl (tw W_431) kv0 dX11_pilgrim_72 ?_
      refine j_new E 5 rfl rfl (by decide) (iw iT_5) tyX5_ok (by decide) (tw W_1003) (tw W_1029) (tw W_441) (by decide) (by decide) dX11_pilgrim_75 (fun q4 nq4 => ?_)
      refine j_nmZ (fun Z5 eZ5 => ?_)
      refine j_nmI (fun I6 eI6 => ?_)
      refine j_nmL (fun L7 eL7 => ?_)
      have h := h q4 nq4 Z5 eZ5 I6 eI6 L7 eL7
      have yZ5 : jext Z Z5 := by rw [eZ5]; exact jext_nw nq4
      have kq4 : jk Z5 q4 5 := by rw [eZ5]; exact jk_nw
      have k8 := (yZ5 _ _ kv0).1
      have k9 := (yZ5 _ _ kb3).1
      have l10 := (yZ5 _ _ kb3).2.trans lb3
      have hx : jext Z0 Z5 := jext_trans hx yZ5
      refine j_dup E dX11_pilgrim_78 rfl ?_
      refine j_aload_n E dX11_pilgrim_79 1 rfl ?_
      obtain ⟨b11, eb11, kb11⟩ := sh_o hZ kv0 (j := 2) (k := 8) rfl
      have eb11 : jr Z5 v0 2 = some b11 := by rw [eZ5]; exact (congrFun (show (jnw Z q4 5 0).2.2.2 v0 = Z.2.2.2 v0 from va_up_ne _ _ (fun e => nq4 (e ▸ kv0.1))) 2).trans eb11
      have kb11 := (yZ5 _ _ kb11).1
      have h := h b11 eb11
      refine j_getr E 11 2 rfl rfl (by decide) (by decide) (iw iT_11) rfl rfl (tw W_454) k8 eb11 dX11_pilgrim_80 ?_
      refine j_iload_n E dX11_pilgrim_83 2 rfl ?_
      refine j_iload_n E dX11_pilgrim_84 3 rfl ?_
      refine j_iload_n E dX11_pilgrim_85 4 rfl ?_
      refine j_iload E dX11_pilgrim_86 5 rfl ?_
      refine j_callI E [.ref b11, .int v1, .int v2, .int v3, .int v4] [.ref q4, .int (I v0 4), .ref b3] (c_X5_init (gL G) (gD G) (gY G) q4 b11 v1 v2 v3 v4 Z5 I6 L7 _ kq4 kb11 h) (gwN W_1030) rfl (tw W_441) (tw W_1031) (tw W_1032) rfl fy_X5_init ⟨by decide, by decide⟩ rfl rfl (Nat.le_of_ble_eq_true rfl) ⟨by decide, by decide⟩ dX11_pilgrim_88 (fun v12 Z13 I14 L15 q16 => ?_)
      obtain ⟨yZ13, rfl, h⟩ := q16
      have k17 := (yZ13 _ _ k8).1
      have k18 := (yZ13 _ _ k9).1
      have l19 := (yZ13 _ _ k9).2.trans l10
      have k20 := (yZ13 _ _ kq4).1
      have hx : jext Z0 Z13 := jext_trans hx yZ13
      show jJ G 6 91 [(5, .int s0), (0, .ref v0), (1, .int v1), (2, .int v2), (3, .int v3), (4, .int v4)] [.ref q4, .int (I v0 4), .ref b3] Z13 I14 L15 _ _
      obtain ⟨o21, h⟩ := h
      refine j_aastP E k18 (by rw [l19]; exact o21) k20 dX11_pilgrim_91 ?_
      refine j_nmZ (fun Z22 eZ22 => ?_)
      have h := h Z22 eZ22
      have yZ22 : jext Z13 Z22 := by rw [eZ22]; exact jext_putr
      have k23 := (yZ22 _ _ k17).1
      have hx : jext Z0 Z22 := jext_trans hx yZ22
      refine j_aload_n E dX11_pilgrim_92 1 rfl ?_
      refine j_dup E dX11_pilgrim_93 rfl ?_
      refine j_geti E 11 4 rfl rfl (by decide) (by decide) (iw iT_11) rfl rfl (tw W_431) k23 dX11_pilgrim_94 ?_
      refine j_iconst E (v := 1) dX11_pilgrim_97 (by decide) ?_
      refine j_iadd E dX11_pilgrim_98 ?_
      refine j_puti E 11 4 rfl rfl (by decide) (by decide) (iw iT_11) tyX11_ok nmX11 rfl rfl (tw W_431) rfl rfl rfl k23 dX11_pilgrim_99 ?_
      refine j_nmI (fun I24 eI24 => ?_)
      have h := h I24 eI24
      refine j_aload_n E dX11_pilgrim_102 1 rfl ?_
      refine j_geti E 11 4 rfl rfl (by decide) (by decide) (iw iT_11) rfl rfl (tw W_431) k23 dX11_pilgrim_103 ?_
      refine j_iconst E (v := 1) dX11_pilgrim_106 (by decide) ?_
      refine j_isub E dX11_pilgrim_107 ?_
      obtain ⟨o25, h⟩ := h
      exact j_ireturn E ⟨hx, o25, _, rfl, h⟩ (by decide) (by decide) dX11_pilgrim_108
    · have h := h.2 c2
      refine j_iconst E (v := -1) dX11_pilgrim_65 (by decide) ?_
      exact j_ireturn E ⟨hx, hZ, _, rfl, h⟩ (Nat.zero_le _) (Nat.zero_le _) dX11_pilgrim_66
set_option maxRecDepth 100000 in
def f_X11_pilgrim_b48  (Q : Int32 → jZ → jI → jL → Prop) (v0 : Nat) (v1 : Int32) (v2 : Int32) (v3 : Int32) (v4 : Int32) (Z : jZ) (I : jI) (L : jL) : Prop := f_X11_pilgrim_b49  Q v0 v1 v2 v3 v4 (0 : Int32) Z I L
set_option maxHeartbeats 4000000 in
set_option maxRecDepth 100000 in
theorem m_X11_pilgrim_b48 {G : jG} {Z0 : jZ} {Q : Int32 → jZ → jI → jL → Prop} (E : jE G cX11_pilgrim RX11 w_X11_pilgrim 6 (some .int) { frames := 4, cells := 26, slots := 585, locals := 89 } (xrtI Z0 Q))  (v0 : Nat) (v1 : Int32) (v2 : Int32) (v3 : Int32) (v4 : Int32) (Z : jZ) (I : jI) (L : jL) (hZ : SH Z) (hx : jext Z0 Z) (kv0 : jk Z v0 11) (h : f_X11_pilgrim_b48  Q v0 v1 v2 v3 v4 Z I L) : jJ G 6 48 [(0, .ref v0), (1, .int v1), (2, .int v2), (3, .int v3), (4, .int v4)] [] Z I L 0 0 := by
  refine j_iconst E (v := 0) dX11_pilgrim_48 (by decide) ?_
  refine j_sub [0, 1, 2, 3, 4] rfl ?_
  exact m_X11_pilgrim_b49 E  v0 v1 v2 v3 v4 (0 : Int32) Z I L hZ hx kv0 h
set_option maxRecDepth 100000 in
def f_X11_pilgrim (v0 : Nat) (v1 : Int32) (v2 : Int32) (v3 : Int32) (v4 : Int32) (Z : jZ) (I : jI) (L : jL) (Q : Int32 → jZ → jI → jL → Prop) : Prop := ((v1 < (1 : Int32) → f_X11_pilgrim_b48  Q v0 v1 v2 v3 v4 Z I L) ∧ (¬ (v1 < (1 : Int32)) → (((120 : Int32) < v1 → f_X11_pilgrim_b48  Q v0 v1 v2 v3 v4 Z I L) ∧ (¬ ((120 : Int32) < v1) → ((v2 < 0 → f_X11_pilgrim_b48  Q v0 v1 v2 v3 v4 Z I L) ∧ (¬ (v2 < 0) → (((999 : Int32) < v2 → f_X11_pilgrim_b48  Q v0 v1 v2 v3 v4 Z I L) ∧ (¬ ((999 : Int32) < v2) → ((v3 < (1 : Int32) → f_X11_pilgrim_b48  Q v0 v1 v2 v3 v4 Z I L) ∧ (¬ (v3 < (1 : Int32)) → (((3 : Int32) < v3 → f_X11_pilgrim_b48  Q v0 v1 v2 v3 v4 Z I L) ∧ (¬ ((3 : Int32) < v3) → ((v4 < 0 → f_X11_pilgrim_b48  Q v0 v1 v2 v3 v4 Z I L) ∧ (¬ (v4 < 0) → (((50 : Int32) < v4 → f_X11_pilgrim_b48  Q v0 v1 v2 v3 v4 Z I L) ∧ (¬ ((50 : Int32) < v4) → f_X11_pilgrim_b49  Q v0 v1 v2 v3 v4 (1 : Int32) Z I L))))))))))))))))
set_option maxHeartbeats 4000000 in
set_option maxRecDepth 100000 in
theorem c_X11_pilgrim (l : Launch) (D : va_G) (cy : jC) (v0 : Nat) (v1 : Int32) (v2 : Int32) (v3 : Int32) (v4 : Int32) (Z : jZ) (I : jI) (L : jL) (Q : Int32 → jZ → jI → jL → Prop) (hZ : SH Z) (kv0 : jk Z v0 11) (h : f_X11_pilgrim v0 v1 v2 v3 v4 Z I L Q) : jCt l yX11_pilgrim w_X11_pilgrim { frames := 4, cells := 26, slots := 585, locals := 89 } D cy [.ref v0, .int v1, .int v2, .int v3, .int v4] Z I L (xrtI Z Q) := by
  refine jCt_of (cc := cX11_pilgrim) (maxL := 6) (ret := (some .int)) (by decide +kernel) rfl (Nat.le_of_ble_eq_true rfl) ?_
  intro G eD eY eL E
  subst eD; subst eY; subst eL
  have E : jE G cX11_pilgrim RX11 w_X11_pilgrim 6 (some .int) { frames := 4, cells := 26, slots := 585, locals := 89 } (xrtI Z Q) := E
  have hx : jext Z Z := jext_rfl
  show jJ G 6 0 [(0, .ref v0), (1, .int v1), (2, .int v2), (3, .int v3), (4, .int v4)] [] Z I L 0 0
  refine j_iload_n E dX11_pilgrim_0 1 rfl ?_
  refine j_iconst E (v := 1) dX11_pilgrim_1 (by decide) ?_
  refine j_icmp_lt E 48 dX11_pilgrim_2 (by decide) (fun c26 => ?_) (fun c26 => ?_)
  · have h := h.1 c26
    refine j_sub [0, 1, 2, 3, 4] rfl ?_
    exact m_X11_pilgrim_b48 E  v0 v1 v2 v3 v4 Z I L hZ hx kv0 h
  · have h := h.2 c26
    refine j_iload_n E dX11_pilgrim_5 1 rfl ?_
    refine j_bipush E (v := 120) dX11_pilgrim_6 (by decide) ?_
    refine j_icmp_gt E 48 dX11_pilgrim_8 (by decide) (fun c27 => ?_) (fun c27 => ?_)
    · have h := h.1 c27
      refine j_sub [0, 1, 2, 3, 4] rfl ?_
      exact m_X11_pilgrim_b48 E  v0 v1 v2 v3 v4 Z I L hZ hx kv0 h
    · have h := h.2 c27
      refine j_iload_n E dX11_pilgrim_11 2 rfl ?_
      refine j_if_lt E 48 dX11_pilgrim_12 (by decide) (fun c28 => ?_) (fun c28 => ?_)
      · have h := h.1 c28
        refine j_sub [0, 1, 2, 3, 4] rfl ?_
        exact m_X11_pilgrim_b48 E  v0 v1 v2 v3 v4 Z I L hZ hx kv0 h
      · have h := h.2 c28
        refine j_iload_n E dX11_pilgrim_15 2 rfl ?_
        refine j_sipush E (v := 999) dX11_pilgrim_16 (by decide) ?_
        refine j_icmp_gt E 48 dX11_pilgrim_19 (by decide) (fun c29 => ?_) (fun c29 => ?_)
        · have h := h.1 c29
          refine j_sub [0, 1, 2, 3, 4] rfl ?_
          exact m_X11_pilgrim_b48 E  v0 v1 v2 v3 v4 Z I L hZ hx kv0 h
        · have h := h.2 c29
          refine j_iload_n E dX11_pilgrim_22 3 rfl ?_
          refine j_iconst E (v := 1) dX11_pilgrim_23 (by decide) ?_
          refine j_icmp_lt E 48 dX11_pilgrim_24 (by decide) (fun c30 => ?_) (fun c30 => ?_)
          · have h := h.1 c30
            refine j_sub [0, 1, 2, 3, 4] rfl ?_
            exact m_X11_pilgrim_b48 E  v0 v1 v2 v3 v4 Z I L hZ hx kv0 h
          · have h := h.2 c30
            refine j_iload_n E dX11_pilgrim_27 3 rfl ?_
            refine j_iconst E (v := 3) dX11_pilgrim_28 (by decide) ?_
            refine j_icmp_gt E 48 dX11_pilgrim_29 (by decide) (fun c31 => ?_) (fun c31 => ?_)
            · have h := h.1 c31
              refine j_sub [0, 1, 2, 3, 4] rfl ?_
              exact m_X11_pilgrim_b48 E  v0 v1 v2 v3 v4 Z I L hZ hx kv0 h
            · have h := h.2 c31
              refine j_iload E dX11_pilgrim_32 4 rfl ?_
              refine j_if_lt E 48 dX11_pilgrim_34 (by decide) (fun c32 => ?_) (fun c32 => ?_)
              · have h := h.1 c32
                refine j_sub [0, 1, 2, 3, 4] rfl ?_
                exact m_X11_pilgrim_b48 E  v0 v1 v2 v3 v4 Z I L hZ hx kv0 h
              · have h := h.2 c32
                refine j_iload E dX11_pilgrim_37 4 rfl ?_
                refine j_bipush E (v := 50) dX11_pilgrim_39 (by decide) ?_
                refine j_icmp_gt E 48 dX11_pilgrim_41 (by decide) (fun c33 => ?_) (fun c33 => ?_)
                · have h := h.1 c33
                  refine j_sub [0, 1, 2, 3, 4] rfl ?_
                  exact m_X11_pilgrim_b48 E  v0 v1 v2 v3 v4 Z I L hZ hx kv0 h
                · have h := h.2 c33
                  refine j_iconst E (v := 1) dX11_pilgrim_44 (by decide) ?_
                  refine j_goto E 49 dX11_pilgrim_45 (by decide) ?_
                  refine j_sub [0, 1, 2, 3, 4] rfl ?_
                  exact m_X11_pilgrim_b49 E  v0 v1 v2 v3 v4 (1 : Int32) Z I L hZ hx kv0 h
