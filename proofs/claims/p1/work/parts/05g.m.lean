set_option maxRecDepth 100000 in
def f_X11_dies_L58  (Z : jZ) (Q : Int32 → jI → jL → Prop) : Nat → Nat → Int32 → Int32 → Int32 → Int32 → jI → jL → Prop
  | 0 => fun _ _ _ _ _ _ _ => False
  | n + 1 => fun v0 v1 v2 v3 v4 I L => (∀ b1 : Nat, jr Z v0 2 = some b1 → (((I b1 9) ≤ v4 → Q v3 I L) ∧ (¬ ((I b1 9) ≤ v4) → (∀ b3 : Nat, jr Z v0 2 = some b3 → (∀ b4 : Nat, jr Z b3 4 = some b4 → (f_X4_inherit b4 v4 v1 v2 Z I L (fun I7 L8 => (∀ x10 : Int32, x10 = v4 + 1 → (f_X11_dies_L58 Z Q n) v0 v1 v2 v3 x10 I7 L8))))))))
set_option maxHeartbeats 4000000 in
set_option maxRecDepth 100000 in
theorem m_X11_dies_L58 {G : jG} {Z : jZ} {Q : Int32 → jI → jL → Prop} (E : jE G cX11_dies RX11 w_X11_dies 5 (some .int) { frames := 3, cells := 0, slots := 0, locals := 74 } (rtI Z Q)) (hZ : SH Z)  : ∀ (n : Nat) (v0 : Nat) (v1 : Int32) (v2 : Int32) (v3 : Int32) (v4 : Int32) (I : jI) (L : jL), jk Z v0 11 → f_X11_dies_L58  Z Q n v0 v1 v2 v3 v4 I L → jJ G 5 58 [(0, .ref v0), (1, .int v1), (2, .int v2), (3, .int v3), (4, .int v4)] [] Z I L 0 0 := by
  intro n
  induction n with
  | zero => intro v0 v1 v2 v3 v4 I L _ h; exact h.elim
  | succ n ih =>
    intro v0 v1 v2 v3 v4 I L kv0 h
    have h : (∀ b1 : Nat, jr Z v0 2 = some b1 → (((I b1 9) ≤ v4 → Q v3 I L) ∧ (¬ ((I b1 9) ≤ v4) → (∀ b3 : Nat, jr Z v0 2 = some b3 → (∀ b4 : Nat, jr Z b3 4 = some b4 → (f_X4_inherit b4 v4 v1 v2 Z I L (fun I7 L8 => (∀ x10 : Int32, x10 = v4 + 1 → (f_X11_dies_L58 Z Q n) v0 v1 v2 v3 x10 I7 L8)))))))) := h
    obtain ⟨K58, eK58⟩ : ∃ K : Nat → Int32 → Int32 → Int32 → Int32 → jI → jL → Prop, K = f_X11_dies_L58  Z Q n := ⟨_, rfl⟩
    have hK58 := ih
    clear eK58 K58
    generalize f_X11_dies_L58  Z Q n = K58 at hK58 h
    refine j_iload E dX11_dies_58 4 rfl ?_
    refine j_aload_n E dX11_dies_60 0 rfl ?_
    obtain ⟨b1, eb1, kb1⟩ := sh_o hZ kv0 (j := 2) (k := 8) rfl
    have h := h b1 eb1
    refine j_getr E 11 2 rfl rfl (by decide) (by decide) (iw iT_11) rfl rfl (tw W_438) kv0 eb1 dX11_dies_61 ?_
    refine j_getiN E 8 9 rfl rfl (by decide) (by decide) (iw iT_8) rfl rfl (nw_8_9_X11_172) kb1 dX11_dies_64 ?_
    refine j_icmp_ge E 90 dX11_dies_67 (by decide) (fun c2 => ?_) (fun c2 => ?_)
    · have h := h.1 c2
      refine j_iload_n E dX11_dies_90 3 rfl ?_
      exact j_ireturn E ⟨rfl, _, rfl, h⟩ (Nat.zero_le _) (Nat.zero_le _) dX11_dies_91
    · have h := h.2 c2
      refine j_aload_n E dX11_dies_70 0 rfl ?_
      obtain ⟨b3, eb3, kb3⟩ := sh_o hZ kv0 (j := 2) (k := 8) rfl
      have h := h b3 eb3
      refine j_getr E 11 2 rfl rfl (by decide) (by decide) (iw iT_11) rfl rfl (tw W_438) kv0 eb3 dX11_dies_71 ?_
      obtain ⟨b4, eb4, kb4⟩ := sh_o hZ kb3 (j := 4) (k := 4) rfl
      have h := h b4 eb4
      refine j_getrN E 8 4 rfl rfl (by decide) (by decide) (iw iT_8) rfl rfl (nw_8_4_X11_160) kb3 eb4 dX11_dies_74 ?_
      refine j_iload E dX11_dies_77 4 rfl ?_
      refine j_iload_n E dX11_dies_79 1 rfl ?_
      refine j_iload_n E dX11_dies_80 2 rfl ?_
      refine j_callV E [.int v4, .int v1, .int v2] [] (c_X4_inherit (gL G) (gD G) (gY G) b4 v4 v1 v2 Z I L _ hZ kb4 h) (gwV W_607 W_608 W_609 W_154 W_606) rfl ⟨rfl, fy_X4_inherit⟩ ⟨by decide, by decide⟩ (c := 4) rfl (by decide) kb4 rfl rfl (Nat.le_of_ble_eq_true rfl) ⟨Nat.zero_le _, Nat.zero_le _⟩ dX11_dies_81 (fun v5 Z6 I7 L8 q9 => ?_)
      obtain ⟨rfl, rfl, h⟩ := q9
      show jJ G 5 84 [(0, .ref v0), (1, .int v1), (2, .int v2), (3, .int v3), (4, .int v4)] [] Z I7 L8 0 0
      obtain ⟨x10, ex10⟩ : ∃ y : Int32, y = v4 + 1 := ⟨_, rfl⟩
      have h := h x10 ex10
      refine j_iinc E x10 [(4, .int x10), (0, .ref v0), (1, .int v1), (2, .int v2), (3, .int v3)] dX11_dies_84 4 rfl (by rw [ex10]; rfl) (by decide) rfl ?_
      refine j_goto E 58 dX11_dies_87 (by decide) ?_
      refine j_sub [1, 2, 3, 4, 0] rfl ?_
      exact hK58 v0 v1 v2 v3 x10 I7 L8 kv0 h
set_option maxRecDepth 100000 in
def f_X11_dies (v0 : Nat) (v1 : Int32) (v2 : Int32) (Z : jZ) (I : jI) (L : jL) (Q : Int32 → jI → jL → Prop) : Prop := (f_X11_isFamily v1 Z I L (fun r16 I13 L14 => ((r16 = 0 → Q (-1 : Int32) I13 L14) ∧ (¬ (r16 = 0) → ((v2 < (1 : Int32) → Q (-1 : Int32) I13 L14) ∧ (¬ (v2 < (1 : Int32)) → (((255 : Int32) < v2 → Q (-1 : Int32) I13 L14) ∧ (¬ ((255 : Int32) < v2) → ((((v2 >>> (v1 &&& 31)) &&& (1 : Int32)) = 0 → (∀ b21 : Nat, jr Z v0 2 = some b21 → (∀ b22 : Nat, jr Z b21 4 = some b22 → (f_X4_sumOf b22 v1 Z I13 L14 (fun r28 I25 L26 => ((r28 ≤ 0 → Q r28 I25 L26) ∧ (¬ (r28 ≤ 0) → (∀ b30 : Nat, jr Z v0 2 = some b30 → (∀ b31 : Nat, jr Z b30 4 = some b31 → (f_X4_remember b31 Z I25 L26 (fun I34 L35 => (∃ m58 : Nat, f_X11_dies_L58  Z Q m58 v0 v1 v2 r28 (0 : Int32) I34 L35)))))))))))) ∧ (¬ (((v2 >>> (v1 &&& 31)) &&& (1 : Int32)) = 0) → Q (-1 : Int32) I13 L14))))))))))
set_option maxHeartbeats 4000000 in
set_option maxRecDepth 100000 in
theorem c_X11_dies (l : Launch) (D : va_G) (cy : jC) (v0 : Nat) (v1 : Int32) (v2 : Int32) (Z : jZ) (I : jI) (L : jL) (Q : Int32 → jI → jL → Prop) (hZ : SH Z) (kv0 : jk Z v0 11) (h : f_X11_dies v0 v1 v2 Z I L Q) : jCt l yX11_dies w_X11_dies { frames := 3, cells := 0, slots := 0, locals := 74 } D cy [.ref v0, .int v1, .int v2] Z I L (rtI Z Q) := by
  refine jCt_of (cc := cX11_dies) (maxL := 5) (ret := (some .int)) (by decide +kernel) rfl (Nat.le_of_ble_eq_true rfl) ?_
  intro G eD eY eL E
  subst eD; subst eY; subst eL
  have E : jE G cX11_dies RX11 w_X11_dies 5 (some .int) { frames := 3, cells := 0, slots := 0, locals := 74 } (rtI Z Q) := E
  show jJ G 5 0 [(0, .ref v0), (1, .int v1), (2, .int v2)] [] Z I L 0 0
  refine j_iload_n E dX11_dies_0 1 rfl ?_
  refine j_callS E [.int v1] [] (c_X11_isFamily (gL G) (gD G) (gY G) v1 Z I L _ hZ  h) (gwS W_460 W_214 W_28 W_213) rfl fy_X11_isFamily ⟨by decide, by decide⟩ rfl rfl (Nat.le_of_ble_eq_true rfl) ⟨Nat.zero_le _, Nat.zero_le _⟩ dX11_dies_1 (fun v11 Z12 I13 L14 q15 => ?_)
  obtain ⟨rfl, r16, rfl, zr16, h⟩ := q15
  show jJ G 5 4 [(0, .ref v0), (1, .int v1), (2, .int v2)] [.int r16] Z I13 L14 0 0
  refine j_if_eq E 27 dX11_dies_4 (by decide) (fun c17 => ?_) (fun c17 => ?_)
  · have h := h.1 c17
    refine j_iconst E (v := -1) dX11_dies_27 (by decide) ?_
    exact j_ireturn E ⟨rfl, _, rfl, h⟩ (Nat.zero_le _) (Nat.zero_le _) dX11_dies_28
  · have h := h.2 c17
    refine j_iload_n E dX11_dies_7 2 rfl ?_
    refine j_iconst E (v := 1) dX11_dies_8 (by decide) ?_
    refine j_icmp_lt E 27 dX11_dies_9 (by decide) (fun c18 => ?_) (fun c18 => ?_)
    · have h := h.1 c18
      refine j_iconst E (v := -1) dX11_dies_27 (by decide) ?_
      exact j_ireturn E ⟨rfl, _, rfl, h⟩ (Nat.zero_le _) (Nat.zero_le _) dX11_dies_28
    · have h := h.2 c18
      refine j_iload_n E dX11_dies_12 2 rfl ?_
      refine j_sipush E (v := 255) dX11_dies_13 (by decide) ?_
      refine j_icmp_gt E 27 dX11_dies_16 (by decide) (fun c19 => ?_) (fun c19 => ?_)
      · have h := h.1 c19
        refine j_iconst E (v := -1) dX11_dies_27 (by decide) ?_
        exact j_ireturn E ⟨rfl, _, rfl, h⟩ (Nat.zero_le _) (Nat.zero_le _) dX11_dies_28
      · have h := h.2 c19
        refine j_iload_n E dX11_dies_19 2 rfl ?_
        refine j_iload_n E dX11_dies_20 1 rfl ?_
        refine j_ishr E dX11_dies_21 ?_
        refine j_iconst E (v := 1) dX11_dies_22 (by decide) ?_
        refine j_iand E dX11_dies_23 ?_
        refine j_if_eq E 29 dX11_dies_24 (by decide) (fun c20 => ?_) (fun c20 => ?_)
        · have h := h.1 c20
          refine j_aload_n E dX11_dies_29 0 rfl ?_
          obtain ⟨b21, eb21, kb21⟩ := sh_o hZ kv0 (j := 2) (k := 8) rfl
          have h := h b21 eb21
          refine j_getr E 11 2 rfl rfl (by decide) (by decide) (iw iT_11) rfl rfl (tw W_438) kv0 eb21 dX11_dies_30 ?_
          obtain ⟨b22, eb22, kb22⟩ := sh_o hZ kb21 (j := 4) (k := 4) rfl
          have h := h b22 eb22
          refine j_getrN E 8 4 rfl rfl (by decide) (by decide) (iw iT_8) rfl rfl (nw_8_4_X11_160) kb21 eb22 dX11_dies_33 ?_
          refine j_iload_n E dX11_dies_36 1 rfl ?_
          refine j_callV E [.int v1] [] (c_X4_sumOf (gL G) (gD G) (gY G) b22 v1 Z I13 L14 _ hZ kb22 h) (gwV W_512 W_222 W_223 W_154 W_220) rfl ⟨rfl, fy_X4_sumOf⟩ ⟨by decide, by decide⟩ (c := 4) rfl (by decide) kb22 rfl rfl (Nat.le_of_ble_eq_true rfl) ⟨Nat.zero_le _, Nat.zero_le _⟩ dX11_dies_37 (fun v23 Z24 I25 L26 q27 => ?_)
          obtain ⟨rfl, r28, rfl, h⟩ := q27
          show jJ G 5 40 [(0, .ref v0), (1, .int v1), (2, .int v2)] [.int r28] Z I25 L26 0 0
          refine j_istore_n E 3 [(3, .int r28), (0, .ref v0), (1, .int v1), (2, .int v2)] dX11_dies_40 rfl (by decide) rfl ?_
          refine j_iload_n E dX11_dies_41 0 rfl ?_
          refine j_if_le E 90 dX11_dies_42 (by decide) (fun c29 => ?_) (fun c29 => ?_)
          · have h := h.1 c29
            refine j_iload_n E dX11_dies_90 0 rfl ?_
            exact j_ireturn E ⟨rfl, _, rfl, h⟩ (Nat.zero_le _) (Nat.zero_le _) dX11_dies_91
          · have h := h.2 c29
            refine j_aload_n E dX11_dies_45 1 rfl ?_
            obtain ⟨b30, eb30, kb30⟩ := sh_o hZ kv0 (j := 2) (k := 8) rfl
            have h := h b30 eb30
            refine j_getr E 11 2 rfl rfl (by decide) (by decide) (iw iT_11) rfl rfl (tw W_438) kv0 eb30 dX11_dies_46 ?_
            obtain ⟨b31, eb31, kb31⟩ := sh_o hZ kb30 (j := 4) (k := 4) rfl
            have h := h b31 eb31
            refine j_getrN E 8 4 rfl rfl (by decide) (by decide) (iw iT_8) rfl rfl (nw_8_4_X11_160) kb30 eb31 dX11_dies_49 ?_
            refine j_callV E [] [] (c_X4_remember (gL G) (gD G) (gY G) b31 Z I25 L26 _ hZ kb31 h) (gwV W_602 W_603 W_604 W_154 W_601) rfl ⟨rfl, fy_X4_remember⟩ ⟨by decide, by decide⟩ (c := 4) rfl (by decide) kb31 rfl rfl (Nat.le_of_ble_eq_true rfl) ⟨Nat.zero_le _, Nat.zero_le _⟩ dX11_dies_52 (fun v32 Z33 I34 L35 q36 => ?_)
            obtain ⟨rfl, rfl, h⟩ := q36
            show jJ G 5 55 [(3, .int r28), (0, .ref v0), (1, .int v1), (2, .int v2)] [] Z I34 L35 0 0
            refine j_iconst E (v := 0) dX11_dies_55 (by decide) ?_
            refine j_istore E 4 [(4, .int (0 : Int32)), (3, .int r28), (0, .ref v0), (1, .int v1), (2, .int v2)] dX11_dies_56 (by decide) rfl ?_
            obtain ⟨n37, h⟩ := h
            refine j_sub [2, 3, 4, 1, 0] rfl ?_
            exact m_X11_dies_L58 E hZ  n37 v0 v1 v2 r28 (0 : Int32) I34 L35 kv0 h
        · have h := h.2 c20
          refine j_iconst E (v := -1) dX11_dies_27 (by decide) ?_
          exact j_ireturn E ⟨rfl, _, rfl, h⟩ (Nat.zero_le _) (Nat.zero_le _) dX11_dies_28
set_option maxRecDepth 100000 in
def f_X11_undo (v0 : Nat) (Z : jZ) (I : jI) (L : jL) (Q : Int32 → jI → jL → Prop) : Prop := (∀ b1 : Nat, jr Z v0 2 = some b1 → (∀ b2 : Nat, jr Z b1 4 = some b2 → (f_X4_takeBack b2 Z I L (fun r8 I5 L6 => ((r8 = 0 → Q (-1 : Int32) I5 L6) ∧ (¬ (r8 = 0) → (∀ b10 : Nat, jr Z v0 2 = some b10 → (∀ b11 : Nat, jr Z b10 4 = some b11 → Q (I5 b11 4) I5 L6))))))))
set_option maxHeartbeats 4000000 in
set_option maxRecDepth 100000 in
theorem c_X11_undo (l : Launch) (D : va_G) (cy : jC) (v0 : Nat) (Z : jZ) (I : jI) (L : jL) (Q : Int32 → jI → jL → Prop) (hZ : SH Z) (kv0 : jk Z v0 11) (h : f_X11_undo v0 Z I L Q) : jCt l yX11_undo w_X11_undo { frames := 3, cells := 0, slots := 0, locals := 69 } D cy [.ref v0] Z I L (rtI Z Q) := by
  refine jCt_of (cc := cX11_undo) (maxL := 1) (ret := (some .int)) (by decide +kernel) rfl (Nat.le_of_ble_eq_true rfl) ?_
  intro G eD eY eL E
  subst eD; subst eY; subst eL
  have E : jE G cX11_undo RX11 w_X11_undo 1 (some .int) { frames := 3, cells := 0, slots := 0, locals := 69 } (rtI Z Q) := E
  show jJ G 1 0 [(0, .ref v0)] [] Z I L 0 0
  refine j_aload_n E dX11_undo_0 0 rfl ?_
  obtain ⟨b1, eb1, kb1⟩ := sh_o hZ kv0 (j := 2) (k := 8) rfl
  have h := h b1 eb1
  refine j_getr E 11 2 rfl rfl (by decide) (by decide) (iw iT_11) rfl rfl (tw W_438) kv0 eb1 dX11_undo_1 ?_
  obtain ⟨b2, eb2, kb2⟩ := sh_o hZ kb1 (j := 4) (k := 4) rfl
  have h := h b2 eb2
  refine j_getrN E 8 4 rfl rfl (by decide) (by decide) (iw iT_8) rfl rfl (nw_8_4_X11_160) kb1 eb2 dX11_undo_4 ?_
  refine j_callV E [] [] (c_X4_takeBack (gL G) (gD G) (gY G) b2 Z I L _ hZ kb2 h) (gwV W_611 W_612 W_613 W_154 W_610) rfl ⟨rfl, fy_X4_takeBack⟩ ⟨by decide, by decide⟩ (c := 4) rfl (by decide) kb2 rfl rfl (Nat.le_of_ble_eq_true rfl) ⟨Nat.zero_le _, Nat.zero_le _⟩ dX11_undo_7 (fun v3 Z4 I5 L6 q7 => ?_)
  obtain ⟨rfl, r8, rfl, zr8, h⟩ := q7
  show jJ G 1 10 [(0, .ref v0)] [.int r8] Z I5 L6 0 0
  refine j_if_eq E 26 dX11_undo_10 (by decide) (fun c9 => ?_) (fun c9 => ?_)
  · have h := h.1 c9
    refine j_iconst E (v := -1) dX11_undo_26 (by decide) ?_
    exact j_ireturn E ⟨rfl, _, rfl, h⟩ (Nat.zero_le _) (Nat.zero_le _) dX11_undo_27
  · have h := h.2 c9
    refine j_aload_n E dX11_undo_13 0 rfl ?_
    obtain ⟨b10, eb10, kb10⟩ := sh_o hZ kv0 (j := 2) (k := 8) rfl
    have h := h b10 eb10
    refine j_getr E 11 2 rfl rfl (by decide) (by decide) (iw iT_11) rfl rfl (tw W_438) kv0 eb10 dX11_undo_14 ?_
    obtain ⟨b11, eb11, kb11⟩ := sh_o hZ kb10 (j := 4) (k := 4) rfl
    have h := h b11 eb11
    refine j_getrN E 8 4 rfl rfl (by decide) (by decide) (iw iT_8) rfl rfl (nw_8_4_X11_160) kb10 eb11 dX11_undo_17 ?_
    refine j_getiN E 4 4 rfl rfl (by decide) (by decide) (iw iT_4) rfl rfl (nw_4_4_X11_369) kb11 dX11_undo_20 ?_
    refine j_goto E 27 dX11_undo_23 (by decide) ?_
    exact j_ireturn E ⟨rfl, _, rfl, h⟩ (Nat.zero_le _) (Nat.zero_le _) dX11_undo_27
set_option maxRecDepth 100000 in
def f_X11_rail_b93 (K61 : Nat → Int32 → Int32 → jI → jL → Prop) (Z : jZ) (Q : Int32 → jI → jL → Prop) (v0 : Nat) (v3 : Int32) (s0 : Int32) (s1 : Int32) (I : jI) (L : jL) : Prop := (∀ x1 : Int32, x1 = (s0 + s1) → (∀ x2 : Int32, x2 = v3 + 1 → K61 v0 x1 x2 I L))
set_option maxHeartbeats 4000000 in
set_option maxRecDepth 100000 in
theorem m_X11_rail_b93 {G : jG} {Z : jZ} {Q : Int32 → jI → jL → Prop} (E : jE G cX11_rail RX11 w_X11_rail 4 (some .int) { frames := 4, cells := 0, slots := 0, locals := 87 } (rtI Z Q)) (hZ : SH Z) (K61 : Nat → Int32 → Int32 → jI → jL → Prop) (hK61 : ∀ (v0 : Nat) (v2 : Int32) (v3 : Int32) (I : jI) (L : jL), jk Z v0 11 → K61 v0 v2 v3 I L → jJ G 4 61 [(0, .ref v0), (2, .int v2), (3, .int v3)] [] Z I L 0 0) (v0 : Nat) (v3 : Int32) (s0 : Int32) (s1 : Int32) (I : jI) (L : jL) (kv0 : jk Z v0 11) (h : f_X11_rail_b93 K61 Z Q v0 v3 s0 s1 I L) : jJ G 4 93 [(0, .ref v0), (3, .int v3)] [.int s1, .int s0] Z I L 0 0 := by
  refine j_iadd E dX11_rail_93 ?_
  refine j_topi (fun x1 ex1 => ?_)
  have h := h x1 ex1
  refine j_istore_n E 2 [(2, .int x1), (0, .ref v0), (3, .int v3)] dX11_rail_94 rfl (by decide) rfl ?_
  obtain ⟨x2, ex2⟩ : ∃ y : Int32, y = v3 + 1 := ⟨_, rfl⟩
  have h := h x2 ex2
  refine j_iinc E x2 [(3, .int x2), (2, .int x1), (0, .ref v0)] dX11_rail_95 2 rfl (by rw [ex2]; rfl) (by decide) rfl ?_
  refine j_goto E 61 dX11_rail_98 (by decide) ?_
  refine j_sub [2, 1, 0] rfl ?_
  exact hK61 v0 x1 x2 I L kv0 h
set_option maxRecDepth 100000 in
def f_X11_rail_L61  (Z : jZ) (Q : Int32 → jI → jL → Prop) : Nat → Nat → Int32 → Int32 → jI → jL → Prop
  | 0 => fun _ _ _ _ _ => False
  | n + 1 => fun v0 v2 v3 I L => (((8 : Int32) ≤ v3 → Q v2 I L) ∧ (¬ ((8 : Int32) ≤ v3) → (∀ b4 : Nat, jr Z v0 6 = some b4 → (vp_in v3 8 ∧ (f_X11_tellMore v0 ((I b4 v3.toNatClampNeg).toInt64) Z I L (fun I8 L9 => (∀ b11 : Nat, jr Z v0 6 = some b11 → (vp_in v3 8 ∧ (((I8 b11 v3.toNatClampNeg) ≤ 0 → f_X11_rail_b93 (f_X11_rail_L61 Z Q n) Z Q v0 v3 v2 (0 : Int32) I8 L9) ∧ (¬ ((I8 b11 v3.toNatClampNeg) ≤ 0) → f_X11_rail_b93 (f_X11_rail_L61 Z Q n) Z Q v0 v3 v2 (1 : Int32) I8 L9))))))))))
set_option maxHeartbeats 4000000 in
set_option maxRecDepth 100000 in
theorem m_X11_rail_L61 {G : jG} {Z : jZ} {Q : Int32 → jI → jL → Prop} (E : jE G cX11_rail RX11 w_X11_rail 4 (some .int) { frames := 4, cells := 0, slots := 0, locals := 87 } (rtI Z Q)) (hZ : SH Z)  : ∀ (n : Nat) (v0 : Nat) (v2 : Int32) (v3 : Int32) (I : jI) (L : jL), jk Z v0 11 → f_X11_rail_L61  Z Q n v0 v2 v3 I L → jJ G 4 61 [(0, .ref v0), (2, .int v2), (3, .int v3)] [] Z I L 0 0 := by
  intro n
  induction n with
  | zero => intro v0 v2 v3 I L _ h; exact h.elim
  | succ n ih =>
    intro v0 v2 v3 I L kv0 h
    have h : (((8 : Int32) ≤ v3 → Q v2 I L) ∧ (¬ ((8 : Int32) ≤ v3) → (∀ b4 : Nat, jr Z v0 6 = some b4 → (vp_in v3 8 ∧ (f_X11_tellMore v0 ((I b4 v3.toNatClampNeg).toInt64) Z I L (fun I8 L9 => (∀ b11 : Nat, jr Z v0 6 = some b11 → (vp_in v3 8 ∧ (((I8 b11 v3.toNatClampNeg) ≤ 0 → f_X11_rail_b93 (f_X11_rail_L61 Z Q n) Z Q v0 v3 v2 (0 : Int32) I8 L9) ∧ (¬ ((I8 b11 v3.toNatClampNeg) ≤ 0) → f_X11_rail_b93 (f_X11_rail_L61 Z Q n) Z Q v0 v3 v2 (1 : Int32) I8 L9)))))))))) := h
    obtain ⟨K61, eK61⟩ : ∃ K : Nat → Int32 → Int32 → jI → jL → Prop, K = f_X11_rail_L61  Z Q n := ⟨_, rfl⟩
    have hK61 := ih
    clear eK61 K61
    generalize f_X11_rail_L61  Z Q n = K61 at hK61 h
    refine j_iload_n E dX11_rail_61 2 rfl ?_
    refine j_bipush E (v := 8) dX11_rail_62 (by decide) ?_
    refine j_icmp_ge E 101 dX11_rail_64 (by decide) (fun c3 => ?_) (fun c3 => ?_)
    · have h := h.1 c3
      refine j_iload_n E dX11_rail_101 1 rfl ?_
      exact j_ireturn E ⟨rfl, _, rfl, h⟩ (Nat.zero_le _) (Nat.zero_le _) dX11_rail_102
    · have h := h.2 c3
      refine j_aload_n E dX11_rail_67 0 rfl ?_
      refine j_aload_n E dX11_rail_68 0 rfl ?_
      obtain ⟨b4, eb4, kb4, lb4⟩ := sh_f hZ kv0 (j := 6) (k := 14) (m := 8) rfl
      have h := h b4 eb4
      refine j_getr E 11 6 rfl rfl (by decide) (by decide) (iw iT_11) rfl rfl (tw W_489) kv0 eb4 dX11_rail_69 ?_
      refine j_iload_n E dX11_rail_72 2 rfl ?_
      obtain ⟨o5, h⟩ := h
      refine j_iald E kb4 (by rw [lb4]; exact o5) dX11_rail_73 ?_
      refine j_i2l E dX11_rail_74 ?_
      refine j_callV E [.long ((I b4 v3.toNatClampNeg).toInt64)] [] (c_X11_tellMore (gL G) (gD G) (gY G) v0 ((I b4 v3.toNatClampNeg).toInt64) Z I L _ hZ kv0 h) (gwV W_472 W_473 W_474 W_28 W_471) rfl ⟨rfl, fy_X11_tellMore⟩ ⟨by decide, by decide⟩ (c := 11) rfl (by decide) kv0 rfl rfl (Nat.le_of_ble_eq_true rfl) ⟨Nat.zero_le _, Nat.zero_le _⟩ dX11_rail_75 (fun v6 Z7 I8 L9 q10 => ?_)
      obtain ⟨rfl, rfl, h⟩ := q10
      show jJ G 4 78 [(0, .ref v0), (2, .int v2), (3, .int v3)] [] Z I8 L9 0 0
      refine j_iload_n E dX11_rail_78 1 rfl ?_
      refine j_aload_n E dX11_rail_79 0 rfl ?_
      obtain ⟨b11, eb11, kb11, lb11⟩ := sh_f hZ kv0 (j := 6) (k := 14) (m := 8) rfl
      have h := h b11 eb11
      refine j_getr E 11 6 rfl rfl (by decide) (by decide) (iw iT_11) rfl rfl (tw W_489) kv0 eb11 dX11_rail_80 ?_
      refine j_iload_n E dX11_rail_83 2 rfl ?_
      obtain ⟨o12, h⟩ := h
      refine j_iald E kb11 (by rw [lb11]; exact o12) dX11_rail_84 ?_
      refine j_if_le E 92 dX11_rail_85 (by decide) (fun c13 => ?_) (fun c13 => ?_)
      · have h := h.1 c13
        refine j_iconst E (v := 0) dX11_rail_92 (by decide) ?_
        refine j_sub [0, 2] rfl ?_
        exact m_X11_rail_b93 E hZ K61 hK61 v0 v3 v2 (0 : Int32) I8 L9 kv0 h
      · have h := h.2 c13
        refine j_iconst E (v := 1) dX11_rail_88 (by decide) ?_
        refine j_goto E 93 dX11_rail_89 (by decide) ?_
        refine j_sub [0, 2] rfl ?_
        exact m_X11_rail_b93 E hZ K61 hK61 v0 v3 v2 (1 : Int32) I8 L9 kv0 h
set_option maxRecDepth 100000 in
def f_X11_rail (v0 : Nat) (v1 : Int32) (Z : jZ) (I : jI) (L : jL) (Q : Int32 → jI → jL → Prop) : Prop := ((v1 < 0 → Q (-1 : Int32) I L) ∧ (¬ (v1 < 0) → (((9999 : Int32) < v1 → Q (-1 : Int32) I L) ∧ (¬ ((9999 : Int32) < v1) → (∀ b16 : Nat, jr Z v0 2 = some b16 → ((¬ (I b16 9) = 0 → (∀ b18 : Nat, jr Z v0 2 = some b18 → (∀ b19 : Nat, jr Z b18 4 = some b19 → (∀ b20 : Nat, jr Z v0 6 = some b20 → (f_X4_sumInto b19 b20 Z I L (fun I23 L24 => (∀ b26 : Nat, jr Z v0 2 = some b26 → (f_X11_divide v0 v1 ((720 : Int32) * (I23 b26 9)) Z I23 L24 (fun I29 L30 => (f_X11_tellNothing v0 Z I29 L30 (fun I34 L35 => (∃ m61 : Nat, f_X11_rail_L61  Z Q m61 v0 (0 : Int32) (0 : Int32) I34 L35)))))))))))) ∧ ((I b16 9) = 0 → Q (-1 : Int32) I L)))))))
set_option maxHeartbeats 4000000 in
set_option maxRecDepth 100000 in
theorem c_X11_rail (l : Launch) (D : va_G) (cy : jC) (v0 : Nat) (v1 : Int32) (Z : jZ) (I : jI) (L : jL) (Q : Int32 → jI → jL → Prop) (hZ : SH Z) (kv0 : jk Z v0 11) (h : f_X11_rail v0 v1 Z I L Q) : jCt l yX11_rail w_X11_rail { frames := 4, cells := 0, slots := 0, locals := 87 } D cy [.ref v0, .int v1] Z I L (rtI Z Q) := by
  refine jCt_of (cc := cX11_rail) (maxL := 4) (ret := (some .int)) (by decide +kernel) rfl (Nat.le_of_ble_eq_true rfl) ?_
  intro G eD eY eL E
  subst eD; subst eY; subst eL
  have E : jE G cX11_rail RX11 w_X11_rail 4 (some .int) { frames := 4, cells := 0, slots := 0, locals := 87 } (rtI Z Q) := E
  show jJ G 4 0 [(0, .ref v0), (1, .int v1)] [] Z I L 0 0
  refine j_iload_n E dX11_rail_0 1 rfl ?_
  refine j_if_lt E 21 dX11_rail_1 (by decide) (fun c14 => ?_) (fun c14 => ?_)
  · have h := h.1 c14
    refine j_iconst E (v := -1) dX11_rail_21 (by decide) ?_
    exact j_ireturn E ⟨rfl, _, rfl, h⟩ (Nat.zero_le _) (Nat.zero_le _) dX11_rail_22
  · have h := h.2 c14
    refine j_iload_n E dX11_rail_4 1 rfl ?_
    refine j_sipush E (v := 9999) dX11_rail_5 (by decide) ?_
    refine j_icmp_gt E 21 dX11_rail_8 (by decide) (fun c15 => ?_) (fun c15 => ?_)
    · have h := h.1 c15
      refine j_iconst E (v := -1) dX11_rail_21 (by decide) ?_
      exact j_ireturn E ⟨rfl, _, rfl, h⟩ (Nat.zero_le _) (Nat.zero_le _) dX11_rail_22
    · have h := h.2 c15
      refine j_aload_n E dX11_rail_11 0 rfl ?_
      obtain ⟨b16, eb16, kb16⟩ := sh_o hZ kv0 (j := 2) (k := 8) rfl
      have h := h b16 eb16
      refine j_getr E 11 2 rfl rfl (by decide) (by decide) (iw iT_11) rfl rfl (tw W_438) kv0 eb16 dX11_rail_12 ?_
      refine j_getiN E 8 9 rfl rfl (by decide) (by decide) (iw iT_8) rfl rfl (nw_8_9_X11_172) kb16 dX11_rail_15 ?_
      refine j_if_ne E 23 dX11_rail_18 (by decide) (fun c17 => ?_) (fun c17 => ?_)
      · have h := h.1 c17
        refine j_aload_n E dX11_rail_23 0 rfl ?_
        obtain ⟨b18, eb18, kb18⟩ := sh_o hZ kv0 (j := 2) (k := 8) rfl
        have h := h b18 eb18
        refine j_getr E 11 2 rfl rfl (by decide) (by decide) (iw iT_11) rfl rfl (tw W_438) kv0 eb18 dX11_rail_24 ?_
        obtain ⟨b19, eb19, kb19⟩ := sh_o hZ kb18 (j := 4) (k := 4) rfl
        have h := h b19 eb19
        refine j_getrN E 8 4 rfl rfl (by decide) (by decide) (iw iT_8) rfl rfl (nw_8_4_X11_160) kb18 eb19 dX11_rail_27 ?_
        refine j_aload_n E dX11_rail_30 0 rfl ?_
        obtain ⟨b20, eb20, kb20, lb20⟩ := sh_f hZ kv0 (j := 6) (k := 14) (m := 8) rfl
        have h := h b20 eb20
        refine j_getr E 11 6 rfl rfl (by decide) (by decide) (iw iT_11) rfl rfl (tw W_489) kv0 eb20 dX11_rail_31 ?_
        refine j_callV E [.ref b20] [] (c_X4_sumInto (gL G) (gD G) (gY G) b19 b20 Z I L _ hZ kb19 kb20 h) (gwV W_615 W_616 W_617 W_154 W_614) rfl ⟨rfl, fy_X4_sumInto⟩ ⟨by decide, by decide⟩ (c := 4) rfl (by decide) kb19 rfl rfl (Nat.le_of_ble_eq_true rfl) ⟨Nat.zero_le _, Nat.zero_le _⟩ dX11_rail_34 (fun v21 Z22 I23 L24 q25 => ?_)
        obtain ⟨rfl, rfl, h⟩ := q25
        show jJ G 4 37 [(0, .ref v0), (1, .int v1)] [] Z I23 L24 0 0
        refine j_aload_n E dX11_rail_37 0 rfl ?_
        refine j_iload_n E dX11_rail_38 1 rfl ?_
        refine j_sipush E (v := 720) dX11_rail_39 (by decide) ?_
        refine j_aload_n E dX11_rail_42 0 rfl ?_
        obtain ⟨b26, eb26, kb26⟩ := sh_o hZ kv0 (j := 2) (k := 8) rfl
        have h := h b26 eb26
        refine j_getr E 11 2 rfl rfl (by decide) (by decide) (iw iT_11) rfl rfl (tw W_438) kv0 eb26 dX11_rail_43 ?_
        refine j_getiN E 8 9 rfl rfl (by decide) (by decide) (iw iT_8) rfl rfl (nw_8_9_X11_172) kb26 dX11_rail_46 ?_
        refine j_imul E dX11_rail_49 ?_
        refine j_callV E [.int v1, .int ((720 : Int32) * (I23 b26 9))] [] (c_X11_divide (gL G) (gD G) (gY G) v0 v1 ((720 : Int32) * (I23 b26 9)) Z I23 L24 _ hZ kv0 h) (gwV W_496 W_497 W_498 W_28 W_495) rfl ⟨rfl, fy_X11_divide⟩ ⟨by decide, by decide⟩ (c := 11) rfl (by decide) kv0 rfl rfl (Nat.le_of_ble_eq_true rfl) ⟨Nat.zero_le _, Nat.zero_le _⟩ dX11_rail_50 (fun v27 Z28 I29 L30 q31 => ?_)
        obtain ⟨rfl, rfl, h⟩ := q31
        show jJ G 4 53 [(0, .ref v0), (1, .int v1)] [] Z I29 L30 0 0
        refine j_iconst E (v := 0) dX11_rail_53 (by decide) ?_
        refine j_istore_n E 2 [(2, .int (0 : Int32)), (0, .ref v0), (1, .int v1)] dX11_rail_54 rfl (by decide) rfl ?_
        refine j_aload_n E dX11_rail_55 1 rfl ?_
        refine j_callV E [] [] (c_X11_tellNothing (gL G) (gD G) (gY G) v0 Z I29 L30 _ hZ kv0 h) (gwV W_468 W_469 W_470 W_28 W_467) rfl ⟨rfl, fy_X11_tellNothing⟩ ⟨by decide, by decide⟩ (c := 11) rfl (by decide) kv0 rfl rfl (Nat.le_of_ble_eq_true rfl) ⟨Nat.zero_le _, Nat.zero_le _⟩ dX11_rail_56 (fun v32 Z33 I34 L35 q36 => ?_)
        obtain ⟨rfl, rfl, h⟩ := q36
        show jJ G 4 59 [(2, .int (0 : Int32)), (0, .ref v0), (1, .int v1)] [] Z I34 L35 0 0
        refine j_iconst E (v := 0) dX11_rail_59 (by decide) ?_
        refine j_istore_n E 3 [(3, .int (0 : Int32)), (2, .int (0 : Int32)), (0, .ref v0), (1, .int v1)] dX11_rail_60 rfl (by decide) rfl ?_
        obtain ⟨n37, h⟩ := h
        refine j_sub [2, 1, 0] rfl ?_
        exact m_X11_rail_L61 E hZ  n37 v0 (0 : Int32) (0 : Int32) I34 L35 kv0 h
      · have h := h.2 c17
        refine j_iconst E (v := -1) dX11_rail_21 (by decide) ?_
        exact j_ireturn E ⟨rfl, _, rfl, h⟩ (Nat.zero_le _) (Nat.zero_le _) dX11_rail_22
set_option maxRecDepth 100000 in
def f_X11_fewestOver_b72 (K6 : Nat → Int32 → Int32 → Int32 → jI → jL → Prop) (Z : jZ) (Q : Int32 → jI → jL → Prop) (v0 : Nat) (v1 : Int32) (v2 : Int32) (v3 : Int32) (I : jI) (L : jL) : Prop := (∀ x1 : Int32, x1 = v3 + 1 → K6 v0 v1 v2 x1 I L)
set_option maxHeartbeats 4000000 in
set_option maxRecDepth 100000 in
theorem m_X11_fewestOver_b72 {G : jG} {Z : jZ} {Q : Int32 → jI → jL → Prop} (E : jE G cX11_fewestOver RX11 w_X11_fewestOver 6 (some .int) { frames := 1, cells := 0, slots := 0, locals := 20 } (rtI Z Q)) (hZ : SH Z) (K6 : Nat → Int32 → Int32 → Int32 → jI → jL → Prop) (hK6 : ∀ (v0 : Nat) (v1 : Int32) (v2 : Int32) (v3 : Int32) (I : jI) (L : jL), jk Z v0 11 → K6 v0 v1 v2 v3 I L → jJ G 6 6 [(0, .ref v0), (1, .int v1), (2, .int v2), (3, .int v3)] [] Z I L 0 0) (v0 : Nat) (v1 : Int32) (v2 : Int32) (v3 : Int32) (I : jI) (L : jL) (kv0 : jk Z v0 11) (h : f_X11_fewestOver_b72 K6 Z Q v0 v1 v2 v3 I L) : jJ G 6 72 [(0, .ref v0), (1, .int v1), (2, .int v2), (3, .int v3)] [] Z I L 0 0 := by
  obtain ⟨x1, ex1⟩ : ∃ y : Int32, y = v3 + 1 := ⟨_, rfl⟩
  have h := h x1 ex1
  refine j_iinc E x1 [(3, .int x1), (0, .ref v0), (1, .int v1), (2, .int v2)] dX11_fewestOver_72 3 rfl (by rw [ex1]; rfl) (by decide) rfl ?_
  refine j_goto E 6 dX11_fewestOver_75 (by decide) ?_
  refine j_sub [1, 2, 3, 0] rfl ?_
  exact hK6 v0 v1 v2 x1 I L kv0 h
set_option maxRecDepth 100000 in
def f_X11_fewestOver_L19 (K6 : Nat → Int32 → Int32 → Int32 → jI → jL → Prop) (Z : jZ) (Q : Int32 → jI → jL → Prop) : Nat → Nat → Int32 → Int32 → Int32 → Int32 → Int32 → jI → jL → Prop
  | 0 => fun _ _ _ _ _ _ _ _ => False
  | n + 1 => fun v0 v1 v2 v3 v4 v5 I L => (((8 : Int32) ≤ v5 → ((((2 : Int32) * v4) ≤ v1 → f_X11_fewestOver_b72 K6 Z Q v0 v1 v2 v3 I L) ∧ (¬ (((2 : Int32) * v4) ≤ v1) → (f_J6_bitCount_0f7a4 v3 Z I L (fun r9 I6 L7 => (f_J6_bitCount_0f7a4 v2 Z I6 L7 (fun r15 I12 L13 => ((r15 ≤ r9 → f_X11_fewestOver_b72 K6 Z Q v0 v1 v2 v3 I12 L13) ∧ (¬ (r15 ≤ r9) → f_X11_fewestOver_b72 K6 Z Q v0 v1 v3 v3 I12 L13))))))))) ∧ (¬ ((8 : Int32) ≤ v5) → (∀ b17 : Nat, jr Z v0 6 = some b17 → (vp_in v5 8 ∧ (∀ x19 : Int32, x19 = (v4 + (((v3 >>> (v5 &&& 31)) &&& (1 : Int32)) * (I b17 v5.toNatClampNeg))) → (∀ x20 : Int32, x20 = v5 + 1 → (f_X11_fewestOver_L19 K6 Z Q n) v0 v1 v2 v3 x19 x20 I L))))))
set_option maxHeartbeats 4000000 in
set_option maxRecDepth 100000 in
theorem m_X11_fewestOver_L19 {G : jG} {Z : jZ} {Q : Int32 → jI → jL → Prop} (E : jE G cX11_fewestOver RX11 w_X11_fewestOver 6 (some .int) { frames := 1, cells := 0, slots := 0, locals := 20 } (rtI Z Q)) (hZ : SH Z) (K6 : Nat → Int32 → Int32 → Int32 → jI → jL → Prop) (hK6 : ∀ (v0 : Nat) (v1 : Int32) (v2 : Int32) (v3 : Int32) (I : jI) (L : jL), jk Z v0 11 → K6 v0 v1 v2 v3 I L → jJ G 6 6 [(0, .ref v0), (1, .int v1), (2, .int v2), (3, .int v3)] [] Z I L 0 0) : ∀ (n : Nat) (v0 : Nat) (v1 : Int32) (v2 : Int32) (v3 : Int32) (v4 : Int32) (v5 : Int32) (I : jI) (L : jL), jk Z v0 11 → f_X11_fewestOver_L19 K6 Z Q n v0 v1 v2 v3 v4 v5 I L → jJ G 6 19 [(0, .ref v0), (1, .int v1), (2, .int v2), (3, .int v3), (4, .int v4), (5, .int v5)] [] Z I L 0 0 := by
  intro n
  induction n with
  | zero => intro v0 v1 v2 v3 v4 v5 I L _ h; exact h.elim
  | succ n ih =>
    intro v0 v1 v2 v3 v4 v5 I L kv0 h
    have h : (((8 : Int32) ≤ v5 → ((((2 : Int32) * v4) ≤ v1 → f_X11_fewestOver_b72 K6 Z Q v0 v1 v2 v3 I L) ∧ (¬ (((2 : Int32) * v4) ≤ v1) → (f_J6_bitCount_0f7a4 v3 Z I L (fun r9 I6 L7 => (f_J6_bitCount_0f7a4 v2 Z I6 L7 (fun r15 I12 L13 => ((r15 ≤ r9 → f_X11_fewestOver_b72 K6 Z Q v0 v1 v2 v3 I12 L13) ∧ (¬ (r15 ≤ r9) → f_X11_fewestOver_b72 K6 Z Q v0 v1 v3 v3 I12 L13))))))))) ∧ (¬ ((8 : Int32) ≤ v5) → (∀ b17 : Nat, jr Z v0 6 = some b17 → (vp_in v5 8 ∧ (∀ x19 : Int32, x19 = (v4 + (((v3 >>> (v5 &&& 31)) &&& (1 : Int32)) * (I b17 v5.toNatClampNeg))) → (∀ x20 : Int32, x20 = v5 + 1 → (f_X11_fewestOver_L19 K6 Z Q n) v0 v1 v2 v3 x19 x20 I L)))))) := h
    obtain ⟨K19, eK19⟩ : ∃ K : Nat → Int32 → Int32 → Int32 → Int32 → Int32 → jI → jL → Prop, K = f_X11_fewestOver_L19 K6 Z Q n := ⟨_, rfl⟩
    have hK19 := ih
    clear eK19 K19
    generalize f_X11_fewestOver_L19 K6 Z Q n = K19 at hK19 h
    refine j_iload E dX11_fewestOver_19 5 rfl ?_
    refine j_bipush E (v := 8) dX11_fewestOver_21 (by decide) ?_
    refine j_icmp_ge E 51 dX11_fewestOver_23 (by decide) (fun c2 => ?_) (fun c2 => ?_)
    · have h := h.1 c2
      refine j_iconst E (v := 2) dX11_fewestOver_51 (by decide) ?_
      refine j_iload E dX11_fewestOver_52 4 rfl ?_
      refine j_imul E dX11_fewestOver_54 ?_
      refine j_iload_n E dX11_fewestOver_55 1 rfl ?_
      refine j_icmp_le E 72 dX11_fewestOver_56 (by decide) (fun c3 => ?_) (fun c3 => ?_)
      · have h := h.1 c3
        refine j_sub [0, 1, 2, 3] rfl ?_
        exact m_X11_fewestOver_b72 E hZ K6 hK6 v0 v1 v2 v3 I L kv0 h
      · have h := h.2 c3
        refine j_iload_n E dX11_fewestOver_59 3 rfl ?_
        refine j_callS E [.int v3] [] (c_J6_bitCount_0f7a4 (gL G) (gD G) (gY G) v3 Z I L _ hZ  h) (gwS W_618 W_236 W_234 W_233) rfl fy_J6_bitCount_0f7a4 ⟨by decide, by decide⟩ rfl rfl (Nat.le_of_ble_eq_true rfl) ⟨Nat.zero_le _, Nat.zero_le _⟩ dX11_fewestOver_60 (fun v4 Z5 I6 L7 q8 => ?_)
        obtain ⟨rfl, r9, rfl, h⟩ := q8
        show jJ G 6 63 [(0, .ref v0), (1, .int v1), (2, .int v2), (3, .int v3), (4, .int v4), (5, .int v5)] [.int r9] Z I6 L7 0 0
        refine j_iload_n E dX11_fewestOver_63 2 rfl ?_
        refine j_callS E [.int v2] [.int r9] (c_J6_bitCount_0f7a4 (gL G) (gD G) (gY G) v2 Z I6 L7 _ hZ  h) (gwS W_618 W_236 W_234 W_233) rfl fy_J6_bitCount_0f7a4 ⟨by decide, by decide⟩ rfl rfl (Nat.le_of_ble_eq_true rfl) ⟨Nat.zero_le _, Nat.zero_le _⟩ dX11_fewestOver_64 (fun v10 Z11 I12 L13 q14 => ?_)
        obtain ⟨rfl, r15, rfl, h⟩ := q14
        show jJ G 6 67 [(0, .ref v0), (1, .int v1), (2, .int v2), (3, .int v3), (4, .int v4), (5, .int v5)] [.int r15, .int r9] Z I12 L13 0 0
        refine j_icmp_ge E 72 dX11_fewestOver_67 (by decide) (fun c16 => ?_) (fun c16 => ?_)
        · have h := h.1 c16
          refine j_sub [0, 1, 2, 3] rfl ?_
          exact m_X11_fewestOver_b72 E hZ K6 hK6 v0 v1 v2 v3 I12 L13 kv0 h
        · have h := h.2 c16
          refine j_iload_n E dX11_fewestOver_70 3 rfl ?_
          refine j_istore_n E 2 [(2, .int v3), (0, .ref v0), (1, .int v1), (3, .int v3), (4, .int v4), (5, .int v5)] dX11_fewestOver_71 rfl (by decide) rfl ?_
          refine j_sub [1, 2, 0, 3] rfl ?_
          exact m_X11_fewestOver_b72 E hZ K6 hK6 v0 v1 v3 v3 I12 L13 kv0 h
    · have h := h.2 c2
      refine j_iload E dX11_fewestOver_26 4 rfl ?_
      refine j_iload_n E dX11_fewestOver_28 3 rfl ?_
      refine j_iload E dX11_fewestOver_29 5 rfl ?_
      refine j_ishr E dX11_fewestOver_31 ?_
      refine j_iconst E (v := 1) dX11_fewestOver_32 (by decide) ?_
      refine j_iand E dX11_fewestOver_33 ?_
      refine j_aload_n E dX11_fewestOver_34 0 rfl ?_
      obtain ⟨b17, eb17, kb17, lb17⟩ := sh_f hZ kv0 (j := 6) (k := 14) (m := 8) rfl
      have h := h b17 eb17
      refine j_getr E 11 6 rfl rfl (by decide) (by decide) (iw iT_11) rfl rfl (tw W_489) kv0 eb17 dX11_fewestOver_35 ?_
      refine j_iload E dX11_fewestOver_38 5 rfl ?_
      obtain ⟨o18, h⟩ := h
      refine j_iald E kb17 (by rw [lb17]; exact o18) dX11_fewestOver_40 ?_
      refine j_imul E dX11_fewestOver_41 ?_
      refine j_iadd E dX11_fewestOver_42 ?_
      refine j_topi (fun x19 ex19 => ?_)
      have h := h x19 ex19
      refine j_istore E 4 [(4, .int x19), (0, .ref v0), (1, .int v1), (2, .int v2), (3, .int v3), (5, .int v5)] dX11_fewestOver_43 (by decide) rfl ?_
      obtain ⟨x20, ex20⟩ : ∃ y : Int32, y = v5 + 1 := ⟨_, rfl⟩
      have h := h x20 ex20
      refine j_iinc E x20 [(5, .int x20), (4, .int x19), (0, .ref v0), (1, .int v1), (2, .int v2), (3, .int v3)] dX11_fewestOver_45 5 rfl (by rw [ex20]; rfl) (by decide) rfl ?_
      refine j_goto E 19 dX11_fewestOver_48 (by decide) ?_
      refine j_sub [2, 3, 4, 5, 1, 0] rfl ?_
      exact hK19 v0 v1 v2 v3 x19 x20 I L kv0 h
set_option maxRecDepth 100000 in
def f_X11_fewestOver_L6  (Z : jZ) (Q : Int32 → jI → jL → Prop) : Nat → Nat → Int32 → Int32 → Int32 → jI → jL → Prop
  | 0 => fun _ _ _ _ _ _ => False
  | n + 1 => fun v0 v1 v2 v3 I L => (((255 : Int32) ≤ v3 → Q v2 I L) ∧ (¬ ((255 : Int32) ≤ v3) → (∃ m19 : Nat, f_X11_fewestOver_L19 (f_X11_fewestOver_L6 Z Q n) Z Q m19 v0 v1 v2 v3 (0 : Int32) (0 : Int32) I L)))
set_option maxHeartbeats 4000000 in
set_option maxRecDepth 100000 in
theorem m_X11_fewestOver_L6 {G : jG} {Z : jZ} {Q : Int32 → jI → jL → Prop} (E : jE G cX11_fewestOver RX11 w_X11_fewestOver 6 (some .int) { frames := 1, cells := 0, slots := 0, locals := 20 } (rtI Z Q)) (hZ : SH Z)  : ∀ (n : Nat) (v0 : Nat) (v1 : Int32) (v2 : Int32) (v3 : Int32) (I : jI) (L : jL), jk Z v0 11 → f_X11_fewestOver_L6  Z Q n v0 v1 v2 v3 I L → jJ G 6 6 [(0, .ref v0), (1, .int v1), (2, .int v2), (3, .int v3)] [] Z I L 0 0 := by
  intro n
  induction n with
  | zero => intro v0 v1 v2 v3 I L _ h; exact h.elim
  | succ n ih =>
    intro v0 v1 v2 v3 I L kv0 h
    have h : (((255 : Int32) ≤ v3 → Q v2 I L) ∧ (¬ ((255 : Int32) ≤ v3) → (∃ m19 : Nat, f_X11_fewestOver_L19 (f_X11_fewestOver_L6 Z Q n) Z Q m19 v0 v1 v2 v3 (0 : Int32) (0 : Int32) I L))) := h
    obtain ⟨K6, eK6⟩ : ∃ K : Nat → Int32 → Int32 → Int32 → jI → jL → Prop, K = f_X11_fewestOver_L6  Z Q n := ⟨_, rfl⟩
    have hK6 := ih
    clear eK6 K6
    generalize f_X11_fewestOver_L6  Z Q n = K6 at hK6 h
    refine j_iload_n E dX11_fewestOver_6 3 rfl ?_
    refine j_sipush E (v := 255) dX11_fewestOver_7 (by decide) ?_
    refine j_icmp_ge E 78 dX11_fewestOver_10 (by decide) (fun c21 => ?_) (fun c21 => ?_)
    · have h := h.1 c21
      refine j_iload_n E dX11_fewestOver_78 2 rfl ?_
      exact j_ireturn E ⟨rfl, _, rfl, h⟩ (Nat.zero_le _) (Nat.zero_le _) dX11_fewestOver_79
    · have h := h.2 c21
      refine j_iconst E (v := 0) dX11_fewestOver_13 (by decide) ?_
      refine j_istore E 4 [(4, .int (0 : Int32)), (0, .ref v0), (1, .int v1), (2, .int v2), (3, .int v3)] dX11_fewestOver_14 (by decide) rfl ?_
      refine j_iconst E (v := 0) dX11_fewestOver_16 (by decide) ?_
      refine j_istore E 5 [(5, .int (0 : Int32)), (4, .int (0 : Int32)), (0, .ref v0), (1, .int v1), (2, .int v2), (3, .int v3)] dX11_fewestOver_17 (by decide) rfl ?_
      obtain ⟨n22, h⟩ := h
      refine j_sub [2, 3, 4, 5, 1, 0] rfl ?_
      exact m_X11_fewestOver_L19 E hZ K6 hK6 n22 v0 v1 v2 v3 (0 : Int32) (0 : Int32) I L kv0 h
set_option maxRecDepth 100000 in
def f_X11_fewestOver (v0 : Nat) (v1 : Int32) (Z : jZ) (I : jI) (L : jL) (Q : Int32 → jI → jL → Prop) : Prop := (∃ m6 : Nat, f_X11_fewestOver_L6  Z Q m6 v0 v1 (255 : Int32) (1 : Int32) I L)
set_option maxHeartbeats 4000000 in
set_option maxRecDepth 100000 in
theorem c_X11_fewestOver (l : Launch) (D : va_G) (cy : jC) (v0 : Nat) (v1 : Int32) (Z : jZ) (I : jI) (L : jL) (Q : Int32 → jI → jL → Prop) (hZ : SH Z) (kv0 : jk Z v0 11) (h : f_X11_fewestOver v0 v1 Z I L Q) : jCt l yX11_fewestOver w_X11_fewestOver { frames := 1, cells := 0, slots := 0, locals := 20 } D cy [.ref v0, .int v1] Z I L (rtI Z Q) := by
  refine jCt_of (cc := cX11_fewestOver) (maxL := 6) (ret := (some .int)) (by decide +kernel) rfl (Nat.le_of_ble_eq_true rfl) ?_
  intro G eD eY eL E
  subst eD; subst eY; subst eL
  have E : jE G cX11_fewestOver RX11 w_X11_fewestOver 6 (some .int) { frames := 1, cells := 0, slots := 0, locals := 20 } (rtI Z Q) := E
  show jJ G 6 0 [(0, .ref v0), (1, .int v1)] [] Z I L 0 0
  refine j_sipush E (v := 255) dX11_fewestOver_0 (by decide) ?_
  refine j_istore_n E 2 [(2, .int (255 : Int32)), (0, .ref v0), (1, .int v1)] dX11_fewestOver_3 rfl (by decide) rfl ?_
  refine j_iconst E (v := 1) dX11_fewestOver_4 (by decide) ?_
  refine j_istore_n E 3 [(3, .int (1 : Int32)), (2, .int (255 : Int32)), (0, .ref v0), (1, .int v1)] dX11_fewestOver_5 rfl (by decide) rfl ?_
  obtain ⟨n23, h⟩ := h
  refine j_sub [2, 3, 1, 0] rfl ?_
  exact m_X11_fewestOver_L6 E hZ  n23 v0 v1 (255 : Int32) (1 : Int32) I L kv0 h
set_option maxRecDepth 100000 in
def f_X11_rules_b90  (Z : jZ) (Q : Int32 → jI → jL → Prop) (v0 : Nat) (s0 : Nat) (s1 : Int32) (I : jI) (L : jL) : Prop := (f_X11_fewestOver s0 s1 Z I L (fun r6 I3 L4 => (f_X11_tellOne v0 (r6.toInt64) Z I3 L4 (fun I9 L10 => (f_J6_bitCount_0f7a4 r6 Z I9 L10 (fun r17 I14 L15 => Q r17 I14 L15))))))
set_option maxHeartbeats 4000000 in
set_option maxRecDepth 100000 in
theorem m_X11_rules_b90 {G : jG} {Z : jZ} {Q : Int32 → jI → jL → Prop} (E : jE G cX11_rules RX11 w_X11_rules 4 (some .int) { frames := 3, cells := 0, slots := 0, locals := 65 } (rtI Z Q)) (hZ : SH Z)  (v0 : Nat) (s0 : Nat) (s1 : Int32) (I : jI) (L : jL) (kv0 : jk Z v0 11) (ks0 : jk Z s0 11) (h : f_X11_rules_b90  Z Q v0 s0 s1 I L) : jJ G 4 90 [(0, .ref v0)] [.int s1, .ref s0] Z I L 0 0 := by
  refine j_callV E [.int s1] [] (c_X11_fewestOver (gL G) (gD G) (gY G) s0 s1 Z I L _ hZ ks0 h) (gwV W_620 W_621 W_622 W_28 W_619) rfl ⟨rfl, fy_X11_fewestOver⟩ ⟨by decide, by decide⟩ (c := 11) rfl (by decide) ks0 rfl rfl (Nat.le_of_ble_eq_true rfl) ⟨Nat.zero_le _, Nat.zero_le _⟩ dX11_rules_90 (fun v1 Z2 I3 L4 q5 => ?_)
  obtain ⟨rfl, r6, rfl, h⟩ := q5
  show jJ G 4 93 [(0, .ref v0)] [.int r6] Z I3 L4 0 0
  refine j_istore_n E 3 [(3, .int r6), (0, .ref v0)] dX11_rules_93 rfl (by decide) rfl ?_
  refine j_aload_n E dX11_rules_94 1 rfl ?_
  refine j_iload_n E dX11_rules_95 0 rfl ?_
  refine j_i2l E dX11_rules_96 ?_
  refine j_callV E [.long (r6.toInt64)] [] (c_X11_tellOne (gL G) (gD G) (gY G) v0 (r6.toInt64) Z I3 L4 _ hZ kv0 h) (gwV W_476 W_477 W_478 W_28 W_475) rfl ⟨rfl, fy_X11_tellOne⟩ ⟨by decide, by decide⟩ (c := 11) rfl (by decide) kv0 rfl rfl (Nat.le_of_ble_eq_true rfl) ⟨Nat.zero_le _, Nat.zero_le _⟩ dX11_rules_97 (fun v7 Z8 I9 L10 q11 => ?_)
  obtain ⟨rfl, rfl, h⟩ := q11
  show jJ G 4 100 [(3, .int r6), (0, .ref v0)] [] Z I9 L10 0 0
  refine j_iload_n E dX11_rules_100 0 rfl ?_
  refine j_callS E [.int r6] [] (c_J6_bitCount_0f7a4 (gL G) (gD G) (gY G) r6 Z I9 L10 _ hZ  h) (gwS W_618 W_236 W_234 W_233) rfl fy_J6_bitCount_0f7a4 ⟨by decide, by decide⟩ rfl rfl (Nat.le_of_ble_eq_true rfl) ⟨Nat.zero_le _, Nat.zero_le _⟩ dX11_rules_101 (fun v12 Z13 I14 L15 q16 => ?_)
  obtain ⟨rfl, r17, rfl, h⟩ := q16
  show jJ G 4 104 [(3, .int r6), (0, .ref v0)] [.int r17] Z I14 L15 0 0
  exact j_ireturn E ⟨rfl, _, rfl, h⟩ (Nat.zero_le _) (Nat.zero_le _) dX11_rules_104
set_option maxRecDepth 100000 in
def f_X11_rules_b72  (Z : jZ) (Q : Int32 → jI → jL → Prop) (v0 : Nat) (v1 : Int32) (I : jI) (L : jL) : Prop := ((¬ v1 = 0 → (∀ b19 : Nat, jr Z v0 2 = some b19 → f_X11_rules_b90  Z Q v0 v0 (I b19 9) I L)) ∧ (v1 = 0 → f_X11_rules_b90  Z Q v0 v0 (720 : Int32) I L))
set_option maxHeartbeats 4000000 in
set_option maxRecDepth 100000 in
theorem m_X11_rules_b72 {G : jG} {Z : jZ} {Q : Int32 → jI → jL → Prop} (E : jE G cX11_rules RX11 w_X11_rules 4 (some .int) { frames := 3, cells := 0, slots := 0, locals := 65 } (rtI Z Q)) (hZ : SH Z)  (v0 : Nat) (v1 : Int32) (I : jI) (L : jL) (kv0 : jk Z v0 11) (h : f_X11_rules_b72  Z Q v0 v1 I L) : jJ G 4 72 [(0, .ref v0), (1, .int v1)] [] Z I L 0 0 := by
  refine j_aload_n E dX11_rules_72 0 rfl ?_
  refine j_iload_n E dX11_rules_73 1 rfl ?_
  refine j_if_ne E 83 dX11_rules_74 (by decide) (fun c18 => ?_) (fun c18 => ?_)
  · have h := h.1 c18
    refine j_aload_n E dX11_rules_83 0 rfl ?_
    obtain ⟨b19, eb19, kb19⟩ := sh_o hZ kv0 (j := 2) (k := 8) rfl
    have h := h b19 eb19
    refine j_getr E 11 2 rfl rfl (by decide) (by decide) (iw iT_11) rfl rfl (tw W_438) kv0 eb19 dX11_rules_84 ?_
    refine j_getiN E 8 9 rfl rfl (by decide) (by decide) (iw iT_8) rfl rfl (nw_8_9_X11_172) kb19 dX11_rules_87 ?_
    refine j_sub [0] rfl ?_
    exact m_X11_rules_b90 E hZ  v0 v0 (I b19 9) I L kv0 kv0 h
  · have h := h.2 c18
    refine j_sipush E (v := 720) dX11_rules_77 (by decide) ?_
    refine j_goto E 90 dX11_rules_80 (by decide) ?_
    refine j_sub [0] rfl ?_
    exact m_X11_rules_b90 E hZ  v0 v0 (720 : Int32) I L kv0 kv0 h
set_option maxRecDepth 100000 in
def f_X11_rules_b36  (Z : jZ) (Q : Int32 → jI → jL → Prop) (v0 : Nat) (v1 : Int32) (v2 : Int32) (I : jI) (L : jL) : Prop := ((¬ v1 = 0 → (∀ b21 : Nat, jr Z v0 2 = some b21 → (∀ b22 : Nat, jr Z b21 4 = some b22 → (∀ b23 : Nat, jr Z v0 6 = some b23 → (f_X4_mainsInto b22 b23 Z I L (fun I26 L27 => f_X11_rules_b72  Z Q v0 v1 I26 L27)))))) ∧ (v1 = 0 → (∀ b29 : Nat, jr Z v0 2 = some b29 → (∀ b30 : Nat, jr Z b29 4 = some b30 → (∀ b31 : Nat, jr Z v0 6 = some b31 → (f_X4_shareInto b30 v2 b31 Z I L (fun I34 L35 => f_X11_rules_b72  Z Q v0 v1 I34 L35)))))))
set_option maxHeartbeats 4000000 in
set_option maxRecDepth 100000 in
theorem m_X11_rules_b36 {G : jG} {Z : jZ} {Q : Int32 → jI → jL → Prop} (E : jE G cX11_rules RX11 w_X11_rules 4 (some .int) { frames := 3, cells := 0, slots := 0, locals := 65 } (rtI Z Q)) (hZ : SH Z)  (v0 : Nat) (v1 : Int32) (v2 : Int32) (I : jI) (L : jL) (kv0 : jk Z v0 11) (h : f_X11_rules_b36  Z Q v0 v1 v2 I L) : jJ G 4 36 [(0, .ref v0), (1, .int v1), (2, .int v2)] [] Z I L 0 0 := by
  refine j_iload_n E dX11_rules_36 1 rfl ?_
  refine j_if_ne E 58 dX11_rules_37 (by decide) (fun c20 => ?_) (fun c20 => ?_)
  · have h := h.1 c20
    refine j_aload_n E dX11_rules_58 0 rfl ?_
    obtain ⟨b21, eb21, kb21⟩ := sh_o hZ kv0 (j := 2) (k := 8) rfl
    have h := h b21 eb21
    refine j_getr E 11 2 rfl rfl (by decide) (by decide) (iw iT_11) rfl rfl (tw W_438) kv0 eb21 dX11_rules_59 ?_
    obtain ⟨b22, eb22, kb22⟩ := sh_o hZ kb21 (j := 4) (k := 4) rfl
    have h := h b22 eb22
    refine j_getrN E 8 4 rfl rfl (by decide) (by decide) (iw iT_8) rfl rfl (nw_8_4_X11_160) kb21 eb22 dX11_rules_62 ?_
    refine j_aload_n E dX11_rules_65 0 rfl ?_
    obtain ⟨b23, eb23, kb23, lb23⟩ := sh_f hZ kv0 (j := 6) (k := 14) (m := 8) rfl
    have h := h b23 eb23
    refine j_getr E 11 6 rfl rfl (by decide) (by decide) (iw iT_11) rfl rfl (tw W_489) kv0 eb23 dX11_rules_66 ?_
    refine j_callV E [.ref b23] [] (c_X4_mainsInto (gL G) (gD G) (gY G) b22 b23 Z I L _ hZ kb22 kb23 h) (gwV W_624 W_625 W_626 W_154 W_623) rfl ⟨rfl, fy_X4_mainsInto⟩ ⟨by decide, by decide⟩ (c := 4) rfl (by decide) kb22 rfl rfl (Nat.le_of_ble_eq_true rfl) ⟨Nat.zero_le _, Nat.zero_le _⟩ dX11_rules_69 (fun v24 Z25 I26 L27 q28 => ?_)
    obtain ⟨rfl, rfl, h⟩ := q28
    show jJ G 4 72 [(0, .ref v0), (1, .int v1), (2, .int v2)] [] Z I26 L27 0 0
    refine j_sub [0, 1] rfl ?_
    exact m_X11_rules_b72 E hZ  v0 v1 I26 L27 kv0 h
  · have h := h.2 c20
    refine j_aload_n E dX11_rules_40 0 rfl ?_
    obtain ⟨b29, eb29, kb29⟩ := sh_o hZ kv0 (j := 2) (k := 8) rfl
    have h := h b29 eb29
    refine j_getr E 11 2 rfl rfl (by decide) (by decide) (iw iT_11) rfl rfl (tw W_438) kv0 eb29 dX11_rules_41 ?_
    obtain ⟨b30, eb30, kb30⟩ := sh_o hZ kb29 (j := 4) (k := 4) rfl
    have h := h b30 eb30
    refine j_getrN E 8 4 rfl rfl (by decide) (by decide) (iw iT_8) rfl rfl (nw_8_4_X11_160) kb29 eb30 dX11_rules_44 ?_
    refine j_iload_n E dX11_rules_47 2 rfl ?_
    refine j_aload_n E dX11_rules_48 0 rfl ?_
    obtain ⟨b31, eb31, kb31, lb31⟩ := sh_f hZ kv0 (j := 6) (k := 14) (m := 8) rfl
    have h := h b31 eb31
    refine j_getr E 11 6 rfl rfl (by decide) (by decide) (iw iT_11) rfl rfl (tw W_489) kv0 eb31 dX11_rules_49 ?_
    refine j_callV E [.int v2, .ref b31] [] (c_X4_shareInto (gL G) (gD G) (gY G) b30 v2 b31 Z I L _ hZ kb30 kb31 h) (gwV W_492 W_493 W_494 W_154 W_491) rfl ⟨rfl, fy_X4_shareInto⟩ ⟨by decide, by decide⟩ (c := 4) rfl (by decide) kb30 rfl rfl (Nat.le_of_ble_eq_true rfl) ⟨Nat.zero_le _, Nat.zero_le _⟩ dX11_rules_52 (fun v32 Z33 I34 L35 q36 => ?_)
    obtain ⟨rfl, rfl, h⟩ := q36
    show jJ G 4 55 [(0, .ref v0), (1, .int v1), (2, .int v2)] [] Z I34 L35 0 0
    refine j_goto E 72 dX11_rules_55 (by decide) ?_
    refine j_sub [0, 1] rfl ?_
    exact m_X11_rules_b72 E hZ  v0 v1 I34 L35 kv0 h
set_option maxRecDepth 100000 in
def f_X11_rules (v0 : Nat) (v1 : Int32) (v2 : Int32) (Z : jZ) (I : jI) (L : jL) (Q : Int32 → jI → jL → Prop) : Prop := ((v1 < 0 → Q (-1 : Int32) I L) ∧ (¬ (v1 < 0) → (((1 : Int32) < v1 → Q (-1 : Int32) I L) ∧ (¬ ((1 : Int32) < v1) → (∀ b39 : Nat, jr Z v0 2 = some b39 → (((I b39 9) = 0 → Q (-1 : Int32) I L) ∧ (¬ ((I b39 9) = 0) → ((¬ v1 = 0 → f_X11_rules_b36  Z Q v0 v1 v2 I L) ∧ (v1 = 0 → (∀ b42 : Nat, jr Z v0 2 = some b42 → (f_X8_has b42 v2 Z I L (fun r48 I45 L46 => ((¬ r48 = 0 → f_X11_rules_b36  Z Q v0 v1 v2 I45 L46) ∧ (r48 = 0 → Q (-1 : Int32) I45 L46))))))))))))))
set_option maxHeartbeats 4000000 in
set_option maxRecDepth 100000 in
theorem c_X11_rules (l : Launch) (D : va_G) (cy : jC) (v0 : Nat) (v1 : Int32) (v2 : Int32) (Z : jZ) (I : jI) (L : jL) (Q : Int32 → jI → jL → Prop) (hZ : SH Z) (kv0 : jk Z v0 11) (h : f_X11_rules v0 v1 v2 Z I L Q) : jCt l yX11_rules w_X11_rules { frames := 3, cells := 0, slots := 0, locals := 65 } D cy [.ref v0, .int v1, .int v2] Z I L (rtI Z Q) := by
  refine jCt_of (cc := cX11_rules) (maxL := 4) (ret := (some .int)) (by decide +kernel) rfl (Nat.le_of_ble_eq_true rfl) ?_
  intro G eD eY eL E
  subst eD; subst eY; subst eL
  have E : jE G cX11_rules RX11 w_X11_rules 4 (some .int) { frames := 3, cells := 0, slots := 0, locals := 65 } (rtI Z Q) := E
  show jJ G 4 0 [(0, .ref v0), (1, .int v1), (2, .int v2)] [] Z I L 0 0
  refine j_iload_n E dX11_rules_0 1 rfl ?_
  refine j_if_lt E 34 dX11_rules_1 (by decide) (fun c37 => ?_) (fun c37 => ?_)
  · have h := h.1 c37
    refine j_iconst E (v := -1) dX11_rules_34 (by decide) ?_
    exact j_ireturn E ⟨rfl, _, rfl, h⟩ (Nat.zero_le _) (Nat.zero_le _) dX11_rules_35
  · have h := h.2 c37
    refine j_iload_n E dX11_rules_4 1 rfl ?_
    refine j_iconst E (v := 1) dX11_rules_5 (by decide) ?_
    refine j_icmp_gt E 34 dX11_rules_6 (by decide) (fun c38 => ?_) (fun c38 => ?_)
    · have h := h.1 c38
      refine j_iconst E (v := -1) dX11_rules_34 (by decide) ?_
      exact j_ireturn E ⟨rfl, _, rfl, h⟩ (Nat.zero_le _) (Nat.zero_le _) dX11_rules_35
    · have h := h.2 c38
      refine j_aload_n E dX11_rules_9 0 rfl ?_
      obtain ⟨b39, eb39, kb39⟩ := sh_o hZ kv0 (j := 2) (k := 8) rfl
      have h := h b39 eb39
      refine j_getr E 11 2 rfl rfl (by decide) (by decide) (iw iT_11) rfl rfl (tw W_438) kv0 eb39 dX11_rules_10 ?_
      refine j_getiN E 8 9 rfl rfl (by decide) (by decide) (iw iT_8) rfl rfl (nw_8_9_X11_172) kb39 dX11_rules_13 ?_
      refine j_if_eq E 34 dX11_rules_16 (by decide) (fun c40 => ?_) (fun c40 => ?_)
      · have h := h.1 c40
        refine j_iconst E (v := -1) dX11_rules_34 (by decide) ?_
        exact j_ireturn E ⟨rfl, _, rfl, h⟩ (Nat.zero_le _) (Nat.zero_le _) dX11_rules_35
      · have h := h.2 c40
        refine j_iload_n E dX11_rules_19 1 rfl ?_
        refine j_if_ne E 36 dX11_rules_20 (by decide) (fun c41 => ?_) (fun c41 => ?_)
        · have h := h.1 c41
          refine j_sub [0, 1, 2] rfl ?_
          exact m_X11_rules_b36 E hZ  v0 v1 v2 I L kv0 h
        · have h := h.2 c41
          refine j_aload_n E dX11_rules_23 0 rfl ?_
          obtain ⟨b42, eb42, kb42⟩ := sh_o hZ kv0 (j := 2) (k := 8) rfl
          have h := h b42 eb42
          refine j_getr E 11 2 rfl rfl (by decide) (by decide) (iw iT_11) rfl rfl (tw W_438) kv0 eb42 dX11_rules_24 ?_
          refine j_iload_n E dX11_rules_27 2 rfl ?_
          refine j_callV E [.int v2] [] (c_X8_has (gL G) (gD G) (gY G) b42 v2 Z I L _ hZ kb42 h) (gwV W_447 W_250 W_251 W_248 W_247) rfl ⟨rfl, fy_X8_has⟩ ⟨by decide, by decide⟩ (c := 8) rfl (by decide) kb42 rfl rfl (Nat.le_of_ble_eq_true rfl) ⟨Nat.zero_le _, Nat.zero_le _⟩ dX11_rules_28 (fun v43 Z44 I45 L46 q47 => ?_)
          obtain ⟨rfl, r48, rfl, zr48, h⟩ := q47
          show jJ G 4 31 [(0, .ref v0), (1, .int v1), (2, .int v2)] [.int r48] Z I45 L46 0 0
          refine j_if_ne E 36 dX11_rules_31 (by decide) (fun c49 => ?_) (fun c49 => ?_)
          · have h := h.1 c49
            refine j_sub [0, 1, 2] rfl ?_
            exact m_X11_rules_b36 E hZ  v0 v1 v2 I45 L46 kv0 h
          · have h := h.2 c49
            refine j_iconst E (v := -1) dX11_rules_34 (by decide) ?_
            exact j_ireturn E ⟨rfl, _, rfl, h⟩ (Nat.zero_le _) (Nat.zero_le _) dX11_rules_35
set_option maxRecDepth 100000 in
def f_X11_hold_b81 (K16 : Nat → Int32 → Int32 → jZ → jI → jL → Prop) (Q : jZ → jI → jL → Prop) (v0 : Nat) (v1 : Int32) (v2 : Int32) (Z : jZ) (I : jI) (L : jL) : Prop := (∀ x1 : Int32, x1 = v2 + 1 → K16 v0 v1 x1 Z I L)
set_option maxHeartbeats 4000000 in
set_option maxRecDepth 100000 in
theorem m_X11_hold_b81 {G : jG} {Z0 : jZ} {Q : jZ → jI → jL → Prop} (E : jE G cX11_hold RX11 w_X11_hold 6 none { frames := 6, cells := 0, slots := 0, locals := 150 } (xrtV Z0 Q)) (K16 : Nat → Int32 → Int32 → jZ → jI → jL → Prop) (hK16 : ∀ (v0 : Nat) (v1 : Int32) (v2 : Int32) (Z : jZ) (I : jI) (L : jL), SH Z → jext Z0 Z → jk Z v0 11 → K16 v0 v1 v2 Z I L → jJ G 6 16 [(0, .ref v0), (1, .int v1), (2, .int v2)] [] Z I L 0 0) (v0 : Nat) (v1 : Int32) (v2 : Int32) (Z : jZ) (I : jI) (L : jL) (hZ : SH Z) (hx : jext Z0 Z) (kv0 : jk Z v0 11) (h : f_X11_hold_b81 K16 Q v0 v1 v2 Z I L) : jJ G 6 81 [(0, .ref v0), (1, .int v1), (2, .int v2)] [] Z I L 0 0 := by
  obtain ⟨x1, ex1⟩ : ∃ y : Int32, y = v2 + 1 := ⟨_, rfl⟩
  have h := h x1 ex1
  refine j_iinc E x1 [(2, .int x1), (0, .ref v0), (1, .int v1)] dX11_hold_81 2 rfl (by rw [ex1]; rfl) (by decide) rfl ?_
  refine j_goto E 16 dX11_hold_84 (by decide) ?_
  refine j_sub [1, 2, 0] rfl ?_
  exact hK16 v0 v1 x1 Z I L hZ hx kv0 h
set_option maxRecDepth 100000 in
def f_X11_hold_L16  (Q : jZ → jI → jL → Prop) : Nat → Nat → Int32 → Int32 → jZ → jI → jL → Prop
  | 0 => fun _ _ _ _ _ _ => False
  | n + 1 => fun v0 v1 v2 Z I L => (((I v0 4) ≤ v2 → (∀ b3 : Nat, jr Z v0 10 = some b3 → (f_X1_run b3 v1 Z I L (fun I6 L7 => Q Z I6 L7)))) ∧ (¬ ((I v0 4) ≤ v2) → (f_X11_find v0 v2 Z I L (fun r14 I11 L12 => ((r14 = none → f_X11_hold_b81 (f_X11_hold_L16 Q n) Q v0 v1 v2 Z I11 L12) ∧ (∀ b15 : Nat, r14 = some b15 → (∀ b17 : Nat, jr Z b15 8 = some b17 → (f_X6_lay b17 (I11 b15 3) (I11 b15 4) (-1 : Int32) Z I11 L12 (fun I20 L21 => (∀ b23 : Nat, jr Z b15 8 = some b23 → (f_X6_cheapest b23 Z I20 L21 (fun r29 Z25 I26 L27 => (((lg_cmp r29 (9223372036854775807 : Int64)) = 0 → f_X11_hold_b81 (f_X11_hold_L16 Q n) Q v0 v1 v2 Z25 I26 L27) ∧ (¬ ((lg_cmp r29 (9223372036854775807 : Int64)) = 0) → (∀ b33 : Nat, jr Z25 v0 10 = some b33 → (f_X1_invite b33 v2 r29 Z25 I26 L27 (fun I36 L37 => f_X11_hold_b81 (f_X11_hold_L16 Q n) Q v0 v1 v2 Z25 I36 L37)))))))))))))))))
set_option maxHeartbeats 4000000 in
set_option maxRecDepth 100000 in
theorem m_X11_hold_L16 {G : jG} {Z0 : jZ} {Q : jZ → jI → jL → Prop} (E : jE G cX11_hold RX11 w_X11_hold 6 none { frames := 6, cells := 0, slots := 0, locals := 150 } (xrtV Z0 Q))  : ∀ (n : Nat) (v0 : Nat) (v1 : Int32) (v2 : Int32) (Z : jZ) (I : jI) (L : jL), SH Z → jext Z0 Z → jk Z v0 11 → f_X11_hold_L16  Q n v0 v1 v2 Z I L → jJ G 6 16 [(0, .ref v0), (1, .int v1), (2, .int v2)] [] Z I L 0 0 := by
  intro n
  induction n with
  | zero => intro v0 v1 v2 Z I L _ _ _ h; exact h.elim
  | succ n ih =>
    intro v0 v1 v2 Z I L hZ hx kv0 h
    have h : (((I v0 4) ≤ v2 → (∀ b3 : Nat, jr Z v0 10 = some b3 → (f_X1_run b3 v1 Z I L (fun I6 L7 => Q Z I6 L7)))) ∧ (¬ ((I v0 4) ≤ v2) → (f_X11_find v0 v2 Z I L (fun r14 I11 L12 => ((r14 = none → f_X11_hold_b81 (f_X11_hold_L16 Q n) Q v0 v1 v2 Z I11 L12) ∧ (∀ b15 : Nat, r14 = some b15 → (∀ b17 : Nat, jr Z b15 8 = some b17 → (f_X6_lay b17 (I11 b15 3) (I11 b15 4) (-1 : Int32) Z I11 L12 (fun I20 L21 => (∀ b23 : Nat, jr Z b15 8 = some b23 → (f_X6_cheapest b23 Z I20 L21 (fun r29 Z25 I26 L27 => (((lg_cmp r29 (9223372036854775807 : Int64)) = 0 → f_X11_hold_b81 (f_X11_hold_L16 Q n) Q v0 v1 v2 Z25 I26 L27) ∧ (¬ ((lg_cmp r29 (9223372036854775807 : Int64)) = 0) → (∀ b33 : Nat, jr Z25 v0 10 = some b33 → (f_X1_invite b33 v2 r29 Z25 I26 L27 (fun I36 L37 => f_X11_hold_b81 (f_X11_hold_L16 Q n) Q v0 v1 v2 Z25 I36 L37))))))))))))))))) := h
    obtain ⟨K16, eK16⟩ : ∃ K : Nat → Int32 → Int32 → jZ → jI → jL → Prop, K = f_X11_hold_L16  Q n := ⟨_, rfl⟩
    have hK16 := ih
    clear eK16 K16
    generalize f_X11_hold_L16  Q n = K16 at hK16 h
    refine j_iload_n E dX11_hold_16 2 rfl ?_
    refine j_aload_n E dX11_hold_17 0 rfl ?_
    refine j_geti E 11 4 rfl rfl (by decide) (by decide) (iw iT_11) rfl rfl (tw W_415) kv0 dX11_hold_18 ?_
    refine j_icmp_ge E 87 dX11_hold_21 (by decide) (fun c2 => ?_) (fun c2 => ?_)
    · have h := h.1 c2
      refine j_aload_n E dX11_hold_87 0 rfl ?_
      obtain ⟨b3, eb3, kb3⟩ := sh_o hZ kv0 (j := 10) (k := 1) rfl
      have h := h b3 eb3
      refine j_getr E 11 10 rfl rfl (by decide) (by decide) (iw iT_11) rfl rfl (tw W_627) kv0 eb3 dX11_hold_88 ?_
      refine j_iload_n E dX11_hold_91 1 rfl ?_
      refine j_callV E [.int v1] [] (c_X1_run (gL G) (gD G) (gY G) b3 v1 Z I L _ hZ kb3 h) (gwV W_629 W_630 W_631 W_133 W_628) rfl ⟨rfl, fy_X1_run⟩ ⟨by decide, by decide⟩ (c := 1) rfl (by decide) kb3 rfl rfl (Nat.le_of_ble_eq_true rfl) ⟨Nat.zero_le _, Nat.zero_le _⟩ dX11_hold_92 (fun v4 Z5 I6 L7 q8 => ?_)
      obtain ⟨rfl, rfl, h⟩ := q8
      show jJ G 6 95 [(0, .ref v0), (1, .int v1), (2, .int v2)] [] Z I6 L7 0 0
      exact j_return E ⟨hx, hZ, rfl, h⟩ (Nat.zero_le _) (Nat.zero_le _) dX11_hold_95
    · have h := h.2 c2
      refine j_aload_n E dX11_hold_24 0 rfl ?_
      refine j_iload_n E dX11_hold_25 2 rfl ?_
      refine j_callV E [.int v2] [] (c_X11_find (gL G) (gD G) (gY G) v0 v2 Z I L _ hZ kv0 h) (gwV W_421 W_422 W_423 W_28 W_420) rfl ⟨rfl, fy_X11_find⟩ ⟨by decide, by decide⟩ (c := 11) rfl (by decide) kv0 rfl rfl (Nat.le_of_ble_eq_true rfl) ⟨Nat.zero_le _, Nat.zero_le _⟩ dX11_hold_26 (fun v9 Z10 I11 L12 q13 => ?_)
      obtain ⟨rfl, r14, rfl, zr14, h⟩ := q13
      show jJ G 6 29 [(0, .ref v0), (1, .int v1), (2, .int v2)] (va_rf r14 :: []) Z I11 L12 0 0
      rcases c16 : r14 with _ | b15
      · have h := h.1 c16
        refine j_rfN rfl ?_
        refine j_astore_nN E 3 [(3, .null), (0, .ref v0), (1, .int v1), (2, .int v2)] dX11_hold_29 rfl (by decide) rfl ?_
        refine j_aload_nN E dX11_hold_30 0 rfl ?_
        refine j_ifnonnullN E dX11_hold_31 ?_
        refine j_goto E 81 dX11_hold_34 (by decide) ?_
        refine j_sub [1, 2, 3] rfl ?_
        exact m_X11_hold_b81 E K16 hK16 v0 v1 v2 Z I11 L12 hZ hx kv0 h
      · have h := h.2 b15 c16
        have kb15 := zr14 b15 c16
        refine j_rfS rfl ?_
        refine j_astore_n E 3 [(3, .ref b15), (0, .ref v0), (1, .int v1), (2, .int v2)] dX11_hold_29 rfl (by decide) rfl ?_
        refine j_aload_n E dX11_hold_30 0 rfl ?_
        refine j_ifnonnull E 37 dX11_hold_31 (by decide) ?_
        refine j_aload_n E dX11_hold_37 0 rfl ?_
        obtain ⟨b17, eb17, kb17⟩ := sh_o hZ kb15 (j := 8) (k := 6) rfl
        have h := h b17 eb17
        refine j_getrN E 5 8 rfl rfl (by decide) (by decide) (iw iT_5) rfl rfl (nw_5_8_X11_263) kb15 eb17 dX11_hold_38 ?_
        refine j_aload_n E dX11_hold_41 0 rfl ?_
        refine j_getiN E 5 3 rfl rfl (by decide) (by decide) (iw iT_5) rfl rfl (nw_5_3_X11_213) kb15 dX11_hold_42 ?_
        refine j_aload_n E dX11_hold_45 0 rfl ?_
        refine j_getiN E 5 4 rfl rfl (by decide) (by decide) (iw iT_5) rfl rfl (nw_5_4_X11_196) kb15 dX11_hold_46 ?_
        refine j_iconst E (v := -1) dX11_hold_49 (by decide) ?_
        refine j_callV E [.int (I11 b15 3), .int (I11 b15 4), .int (-1 : Int32)] [] (c_X6_lay (gL G) (gD G) (gY G) b17 (I11 b15 3) (I11 b15 4) (-1 : Int32) Z I11 L12 _ hZ kb17 h) (gwV W_516 W_517 W_518 W_21 W_515) rfl ⟨rfl, fy_X6_lay⟩ ⟨by decide, by decide⟩ (c := 6) rfl (by decide) kb17 rfl rfl (Nat.le_of_ble_eq_true rfl) ⟨Nat.zero_le _, Nat.zero_le _⟩ dX11_hold_50 (fun v18 Z19 I20 L21 q22 => ?_)
        obtain ⟨rfl, rfl, h⟩ := q22
        show jJ G 6 53 [(3, .ref b15), (0, .ref v0), (1, .int v1), (2, .int v2)] [] Z I20 L21 0 0
        refine j_aload_n E dX11_hold_53 0 rfl ?_
        obtain ⟨b23, eb23, kb23⟩ := sh_o hZ kb15 (j := 8) (k := 6) rfl
        have h := h b23 eb23
        refine j_getrN E 5 8 rfl rfl (by decide) (by decide) (iw iT_5) rfl rfl (nw_5_8_X11_263) kb15 eb23 dX11_hold_54 ?_
        refine j_callV E [] [] (c_X6_cheapest (gL G) (gD G) (gY G) b23 Z I20 L21 _ hZ kb23 h) (gwV W_520 W_521 W_522 W_21 W_519) rfl ⟨rfl, fy_X6_cheapest⟩ ⟨by decide, by decide⟩ (c := 6) rfl (by decide) kb23 rfl rfl (Nat.le_of_ble_eq_true rfl) ⟨Nat.zero_le _, Nat.zero_le _⟩ dX11_hold_57 (fun v24 Z25 I26 L27 q28 => ?_)
        obtain ⟨yZ25, hZ25, r29, rfl, h⟩ := q28
        have hZ := hZ25
        have hx : jext Z0 Z25 := jext_trans hx yZ25
        have k30 := (yZ25 _ _ kv0).1
        have k31 := (yZ25 _ _ kb15).1
        show jJ G 6 60 [(3, .ref b15), (0, .ref v0), (1, .int v1), (2, .int v2)] [.long r29] Z25 I26 L27 0 0
        refine j_lstore E 4 [(4, .long r29), (3, .ref b15), (0, .ref v0), (1, .int v1), (2, .int v2)] dX11_hold_60 (by decide) rfl ?_
        refine j_lload E dX11_hold_62 0 rfl ?_
        refine j_ldc2 E (tw W_523) dX11_hold_64 ?_
        refine j_lcmp E dX11_hold_67 ?_
        refine j_if_eq E 81 dX11_hold_68 (by decide) (fun c32 => ?_) (fun c32 => ?_)
        · have h := h.1 c32
          refine j_sub [2, 3, 4] rfl ?_
          exact m_X11_hold_b81 E K16 hK16 v0 v1 v2 Z25 I26 L27 hZ hx k30 h
        · have h := h.2 c32
          refine j_aload_n E dX11_hold_71 2 rfl ?_
          obtain ⟨b33, eb33, kb33⟩ := sh_o hZ k30 (j := 10) (k := 1) rfl
          have h := h b33 eb33
          refine j_getr E 11 10 rfl rfl (by decide) (by decide) (iw iT_11) rfl rfl (tw W_627) k30 eb33 dX11_hold_72 ?_
          refine j_iload_n E dX11_hold_75 4 rfl ?_
          refine j_lload E dX11_hold_76 0 rfl ?_
          refine j_callV E [.int v2, .long r29] [] (c_X1_invite (gL G) (gD G) (gY G) b33 v2 r29 Z25 I26 L27 _ hZ kb33 h) (gwV W_633 W_634 W_635 W_133 W_632) rfl ⟨rfl, fy_X1_invite⟩ ⟨by decide, by decide⟩ (c := 1) rfl (by decide) kb33 rfl rfl (Nat.le_of_ble_eq_true rfl) ⟨Nat.zero_le _, Nat.zero_le _⟩ dX11_hold_78 (fun v34 Z35 I36 L37 q38 => ?_)
          obtain ⟨rfl, rfl, h⟩ := q38
          show jJ G 6 81 [(4, .long r29), (3, .ref b15), (0, .ref v0), (1, .int v1), (2, .int v2)] [] Z25 I36 L37 0 0
          refine j_sub [2, 3, 4] rfl ?_
          exact m_X11_hold_b81 E K16 hK16 v0 v1 v2 Z25 I36 L37 hZ hx k30 h
set_option maxRecDepth 100000 in
def f_X11_hold (v0 : Nat) (v1 : Int32) (Z : jZ) (I : jI) (L : jL) (Q : jZ → jI → jL → Prop) : Prop := (∀ b39 : Nat, jr Z v0 10 = some b39 → (∀ b40 : Nat, jr Z v0 2 = some b40 → (f_X1_prepare b39 (I b40 9) Z I L (fun I43 L44 => (∃ m16 : Nat, f_X11_hold_L16  Q m16 v0 v1 (0 : Int32) Z I43 L44)))))
set_option maxHeartbeats 4000000 in
set_option maxRecDepth 100000 in
theorem c_X11_hold (l : Launch) (D : va_G) (cy : jC) (v0 : Nat) (v1 : Int32) (Z : jZ) (I : jI) (L : jL) (Q : jZ → jI → jL → Prop) (hZ : SH Z) (kv0 : jk Z v0 11) (h : f_X11_hold v0 v1 Z I L Q) : jCt l yX11_hold w_X11_hold { frames := 6, cells := 0, slots := 0, locals := 150 } D cy [.ref v0, .int v1] Z I L (xrtV Z Q) := by
  refine jCt_of (cc := cX11_hold) (maxL := 6) (ret := none) (by decide +kernel) rfl (Nat.le_of_ble_eq_true rfl) ?_
  intro G eD eY eL E
  subst eD; subst eY; subst eL
  have E : jE G cX11_hold RX11 w_X11_hold 6 none { frames := 6, cells := 0, slots := 0, locals := 150 } (xrtV Z Q) := E
  have hx : jext Z Z := jext_rfl
  show jJ G 6 0 [(0, .ref v0), (1, .int v1)] [] Z I L 0 0
  refine j_aload_n E dX11_hold_0 0 rfl ?_
  obtain ⟨b39, eb39, kb39⟩ := sh_o hZ kv0 (j := 10) (k := 1) rfl
  have h := h b39 eb39
  refine j_getr E 11 10 rfl rfl (by decide) (by decide) (iw iT_11) rfl rfl (tw W_627) kv0 eb39 dX11_hold_1 ?_
  refine j_aload_n E dX11_hold_4 0 rfl ?_
  obtain ⟨b40, eb40, kb40⟩ := sh_o hZ kv0 (j := 2) (k := 8) rfl
  have h := h b40 eb40
  refine j_getr E 11 2 rfl rfl (by decide) (by decide) (iw iT_11) rfl rfl (tw W_438) kv0 eb40 dX11_hold_5 ?_
  refine j_getiN E 8 9 rfl rfl (by decide) (by decide) (iw iT_8) rfl rfl (nw_8_9_X11_172) kb40 dX11_hold_8 ?_
  refine j_callV E [.int (I b40 9)] [] (c_X1_prepare (gL G) (gD G) (gY G) b39 (I b40 9) Z I L _ hZ kb39 h) (gwV W_637 W_638 W_639 W_133 W_636) rfl ⟨rfl, fy_X1_prepare⟩ ⟨by decide, by decide⟩ (c := 1) rfl (by decide) kb39 rfl rfl (Nat.le_of_ble_eq_true rfl) ⟨Nat.zero_le _, Nat.zero_le _⟩ dX11_hold_11 (fun v41 Z42 I43 L44 q45 => ?_)
  obtain ⟨rfl, rfl, h⟩ := q45
  show jJ G 6 14 [(0, .ref v0), (1, .int v1)] [] Z I43 L44 0 0
  refine j_iconst E (v := 0) dX11_hold_14 (by decide) ?_
  refine j_istore_n E 2 [(2, .int (0 : Int32)), (0, .ref v0), (1, .int v1)] dX11_hold_15 rfl (by decide) rfl ?_
  obtain ⟨n46, h⟩ := h
  refine j_sub [1, 2, 0] rfl ?_
  exact m_X11_hold_L16 E  n46 v0 v1 (0 : Int32) Z I43 L44 hZ hx kv0 h
set_option maxRecDepth 100000 in
def f_X11_feast_b56  (Q : Int32 → jZ → jI → jL → Prop) (v0 : Nat) (v2 : Int32) (s0 : Nat) (s1 : Int64) (Z : jZ) (I : jI) (L : jL) : Prop := (f_X11_tellTwo s0 s1 (v2.toInt64) Z I L (fun I3 L4 => (∀ b6 : Nat, jr Z v0 10 = some b6 → (f_X11_tellMore v0 ((I3 b6 9).toInt64) Z I3 L4 (fun I9 L10 => (∀ b12 : Nat, jr Z v0 10 = some b12 → Q (I9 b12 8) Z I9 L10))))))
set_option maxHeartbeats 4000000 in
set_option maxRecDepth 100000 in
theorem m_X11_feast_b56 {G : jG} {Z0 : jZ} {Q : Int32 → jZ → jI → jL → Prop} (E : jE G cX11_feast RX11 w_X11_feast 3 (some .int) { frames := 7, cells := 0, slots := 0, locals := 175 } (xrtI Z0 Q))  (v0 : Nat) (v2 : Int32) (s0 : Nat) (s1 : Int64) (Z : jZ) (I : jI) (L : jL) (hZ : SH Z) (hx : jext Z0 Z) (kv0 : jk Z v0 11) (ks0 : jk Z s0 11) (h : f_X11_feast_b56  Q v0 v2 s0 s1 Z I L) : jJ G 3 56 [(0, .ref v0), (2, .int v2)] [.long s1, .ref s0] Z I L 0 0 := by
  refine j_iload_n E dX11_feast_56 1 rfl ?_
  refine j_i2l E dX11_feast_57 ?_
  refine j_callV E [.long s1, .long (v2.toInt64)] [] (c_X11_tellTwo (gL G) (gD G) (gY G) s0 s1 (v2.toInt64) Z I L _ hZ ks0 h) (gwV W_485 W_486 W_487 W_28 W_484) rfl ⟨rfl, fy_X11_tellTwo⟩ ⟨by decide, by decide⟩ (c := 11) rfl (by decide) ks0 rfl rfl (Nat.le_of_ble_eq_true rfl) ⟨Nat.zero_le _, Nat.zero_le _⟩ dX11_feast_58 (fun v1 Z2 I3 L4 q5 => ?_)
  obtain ⟨rfl, rfl, h⟩ := q5
  show jJ G 3 61 [(0, .ref v0), (2, .int v2)] [] Z I3 L4 0 0
  refine j_aload_n E dX11_feast_61 0 rfl ?_
  refine j_aload_n E dX11_feast_62 0 rfl ?_
  obtain ⟨b6, eb6, kb6⟩ := sh_o hZ kv0 (j := 10) (k := 1) rfl
  have h := h b6 eb6
  refine j_getr E 11 10 rfl rfl (by decide) (by decide) (iw iT_11) rfl rfl (tw W_627) kv0 eb6 dX11_feast_63 ?_
  refine j_getiN E 1 9 rfl rfl (by decide) (by decide) (iw iT_1) rfl rfl (nw_1_9_X11_403) kb6 dX11_feast_66 ?_
  refine j_i2l E dX11_feast_69 ?_
  refine j_callV E [.long ((I3 b6 9).toInt64)] [] (c_X11_tellMore (gL G) (gD G) (gY G) v0 ((I3 b6 9).toInt64) Z I3 L4 _ hZ kv0 h) (gwV W_472 W_473 W_474 W_28 W_471) rfl ⟨rfl, fy_X11_tellMore⟩ ⟨by decide, by decide⟩ (c := 11) rfl (by decide) kv0 rfl rfl (Nat.le_of_ble_eq_true rfl) ⟨Nat.zero_le _, Nat.zero_le _⟩ dX11_feast_70 (fun v7 Z8 I9 L10 q11 => ?_)
  obtain ⟨rfl, rfl, h⟩ := q11
  show jJ G 3 73 [(0, .ref v0), (2, .int v2)] [] Z I9 L10 0 0
  refine j_aload_n E dX11_feast_73 0 rfl ?_
  obtain ⟨b12, eb12, kb12⟩ := sh_o hZ kv0 (j := 10) (k := 1) rfl
  have h := h b12 eb12
  refine j_getr E 11 10 rfl rfl (by decide) (by decide) (iw iT_11) rfl rfl (tw W_627) kv0 eb12 dX11_feast_74 ?_
  refine j_getiN E 1 8 rfl rfl (by decide) (by decide) (iw iT_1) rfl rfl (nw_1_8_X11_406) kb12 dX11_feast_77 ?_
  exact j_ireturn E ⟨hx, hZ, _, rfl, h⟩ (Nat.zero_le _) (Nat.zero_le _) dX11_feast_80
set_option maxRecDepth 100000 in
def f_X11_feast (v0 : Nat) (v1 : Int32) (Z : jZ) (I : jI) (L : jL) (Q : Int32 → jZ → jI → jL → Prop) : Prop := ((v1 < (1 : Int32) → Q (-1 : Int32) Z I L) ∧ (¬ (v1 < (1 : Int32)) → (((6 : Int32) < v1 → Q (-1 : Int32) Z I L) ∧ (¬ ((6 : Int32) < v1) → (∀ b15 : Nat, jr Z v0 2 = some b15 → ((¬ (I b15 9) = 0 → (f_X11_hold v0 v1 Z I L (fun Z18 I19 L20 => (∀ b23 : Nat, jr Z18 v0 10 = some b23 → (f_X1_longestWaiting b23 Z18 I19 L20 (fun r29 I26 L27 => ((¬ r29 = (-1 : Int32) → (∀ b31 : Nat, jr Z18 v0 10 = some b31 → (∀ b32 : Nat, jr Z18 b31 3 = some b32 → (vp_in r29 6 ∧ f_X11_feast_b56  Q v0 r29 v0 ((I26 b32 r29.toNatClampNeg).toInt64) Z18 I26 L27)))) ∧ (r29 = (-1 : Int32) → f_X11_feast_b56  Q v0 r29 v0 (0 : Int64) Z18 I26 L27)))))))) ∧ ((I b15 9) = 0 → Q (-1 : Int32) Z I L)))))))
set_option maxHeartbeats 4000000 in
set_option maxRecDepth 100000 in
theorem c_X11_feast (l : Launch) (D : va_G) (cy : jC) (v0 : Nat) (v1 : Int32) (Z : jZ) (I : jI) (L : jL) (Q : Int32 → jZ → jI → jL → Prop) (hZ : SH Z) (kv0 : jk Z v0 11) (h : f_X11_feast v0 v1 Z I L Q) : jCt l yX11_feast w_X11_feast { frames := 7, cells := 0, slots := 0, locals := 175 } D cy [.ref v0, .int v1] Z I L (xrtI Z Q) := by
  refine jCt_of (cc := cX11_feast) (maxL := 3) (ret := (some .int)) (by decide +kernel) rfl (Nat.le_of_ble_eq_true rfl) ?_
  intro G eD eY eL E
  subst eD; subst eY; subst eL
  have E : jE G cX11_feast RX11 w_X11_feast 3 (some .int) { frames := 7, cells := 0, slots := 0, locals := 175 } (xrtI Z Q) := E
  have hx : jext Z Z := jext_rfl
  show jJ G 3 0 [(0, .ref v0), (1, .int v1)] [] Z I L 0 0
  refine j_iload_n E dX11_feast_0 1 rfl ?_
  refine j_iconst E (v := 1) dX11_feast_1 (by decide) ?_
  refine j_icmp_lt E 21 dX11_feast_2 (by decide) (fun c13 => ?_) (fun c13 => ?_)
  · have h := h.1 c13
    refine j_iconst E (v := -1) dX11_feast_21 (by decide) ?_
    exact j_ireturn E ⟨hx, hZ, _, rfl, h⟩ (Nat.zero_le _) (Nat.zero_le _) dX11_feast_22
  · have h := h.2 c13
    refine j_iload_n E dX11_feast_5 1 rfl ?_
    refine j_bipush E (v := 6) dX11_feast_6 (by decide) ?_
    refine j_icmp_gt E 21 dX11_feast_8 (by decide) (fun c14 => ?_) (fun c14 => ?_)
    · have h := h.1 c14
      refine j_iconst E (v := -1) dX11_feast_21 (by decide) ?_
      exact j_ireturn E ⟨hx, hZ, _, rfl, h⟩ (Nat.zero_le _) (Nat.zero_le _) dX11_feast_22
    · have h := h.2 c14
      refine j_aload_n E dX11_feast_11 0 rfl ?_
      obtain ⟨b15, eb15, kb15⟩ := sh_o hZ kv0 (j := 2) (k := 8) rfl
      have h := h b15 eb15
      refine j_getr E 11 2 rfl rfl (by decide) (by decide) (iw iT_11) rfl rfl (tw W_438) kv0 eb15 dX11_feast_12 ?_
      refine j_getiN E 8 9 rfl rfl (by decide) (by decide) (iw iT_8) rfl rfl (nw_8_9_X11_172) kb15 dX11_feast_15 ?_
      refine j_if_ne E 23 dX11_feast_18 (by decide) (fun c16 => ?_) (fun c16 => ?_)
      · have h := h.1 c16
        refine j_aload_n E dX11_feast_23 0 rfl ?_
        refine j_iload_n E dX11_feast_24 1 rfl ?_
        refine j_callV E [.int v1] [] (c_X11_hold (gL G) (gD G) (gY G) v0 v1 Z I L _ hZ kv0 h) (gwV W_641 W_642 W_643 W_28 W_640) rfl ⟨rfl, fy_X11_hold⟩ ⟨by decide, by decide⟩ (c := 11) rfl (by decide) kv0 rfl rfl (Nat.le_of_ble_eq_true rfl) ⟨Nat.zero_le _, Nat.zero_le _⟩ dX11_feast_25 (fun v17 Z18 I19 L20 q21 => ?_)
        obtain ⟨yZ18, hZ18, rfl, h⟩ := q21
        have hZ := hZ18
        have hx : jext Z Z18 := jext_trans hx yZ18
        have k22 := (yZ18 _ _ kv0).1
        show jJ G 3 28 [(0, .ref v0), (1, .int v1)] [] Z18 I19 L20 0 0
        refine j_aload_n E dX11_feast_28 0 rfl ?_
        obtain ⟨b23, eb23, kb23⟩ := sh_o hZ k22 (j := 10) (k := 1) rfl
        have h := h b23 eb23
        refine j_getr E 11 10 rfl rfl (by decide) (by decide) (iw iT_11) rfl rfl (tw W_627) k22 eb23 dX11_feast_29 ?_
        refine j_callV E [] [] (c_X1_longestWaiting (gL G) (gD G) (gY G) b23 Z18 I19 L20 _ hZ kb23 h) (gwV W_645 W_646 W_647 W_133 W_644) rfl ⟨rfl, fy_X1_longestWaiting⟩ ⟨by decide, by decide⟩ (c := 1) rfl (by decide) kb23 rfl rfl (Nat.le_of_ble_eq_true rfl) ⟨Nat.zero_le _, Nat.zero_le _⟩ dX11_feast_32 (fun v24 Z25 I26 L27 q28 => ?_)
        obtain ⟨rfl, r29, rfl, h⟩ := q28
        show jJ G 3 35 [(0, .ref v0), (1, .int v1)] [.int r29] Z18 I26 L27 0 0
        refine j_istore_n E 2 [(2, .int r29), (0, .ref v0), (1, .int v1)] dX11_feast_35 rfl (by decide) rfl ?_
        refine j_aload_n E dX11_feast_36 1 rfl ?_
        refine j_iload_n E dX11_feast_37 0 rfl ?_
        refine j_iconst E (v := -1) dX11_feast_38 (by decide) ?_
        refine j_icmp_ne E 46 dX11_feast_39 (by decide) (fun c30 => ?_) (fun c30 => ?_)
        · have h := h.1 c30
          refine j_aload_n E dX11_feast_46 1 rfl ?_
          obtain ⟨b31, eb31, kb31⟩ := sh_o hZ k22 (j := 10) (k := 1) rfl
          have h := h b31 eb31
          refine j_getr E 11 10 rfl rfl (by decide) (by decide) (iw iT_11) rfl rfl (tw W_627) k22 eb31 dX11_feast_47 ?_
          obtain ⟨b32, eb32, kb32, lb32⟩ := sh_f hZ kb31 (j := 3) (k := 14) (m := 6) rfl
          have h := h b32 eb32
          refine j_getrN E 1 3 rfl rfl (by decide) (by decide) (iw iT_1) rfl rfl (nw_1_3_X11_400) kb31 eb32 dX11_feast_50 ?_
          refine j_iload_n E dX11_feast_53 0 rfl ?_
          obtain ⟨o33, h⟩ := h
          refine j_iald E kb32 (by rw [lb32]; exact o33) dX11_feast_54 ?_
          refine j_i2l E dX11_feast_55 ?_
          refine j_sub [1, 0] rfl ?_
          exact m_X11_feast_b56 E  v0 r29 v0 ((I26 b32 r29.toNatClampNeg).toInt64) Z18 I26 L27 hZ hx k22 k22 h
        · have h := h.2 c30
          refine j_lconst E (v := 0) dX11_feast_42 (by decide) ?_
          refine j_goto E 56 dX11_feast_43 (by decide) ?_
          refine j_sub [1, 0] rfl ?_
          exact m_X11_feast_b56 E  v0 r29 v0 (0 : Int64) Z18 I26 L27 hZ hx k22 k22 h
      · have h := h.2 c16
        refine j_iconst E (v := -1) dX11_feast_21 (by decide) ?_
        exact j_ireturn E ⟨hx, hZ, _, rfl, h⟩ (Nat.zero_le _) (Nat.zero_le _) dX11_feast_22
set_option maxRecDepth 100000 in
def f_X11_jam_b59 (K22 : Nat → Int32 → Int32 → jZ → jI → jL → Prop) (Q : Int32 → jZ → jI → jL → Prop) (v0 : Nat) (v2 : Int32) (s0 : Int32) (Z : jZ) (I : jI) (L : jL) : Prop := (∀ x1 : Int32, x1 = v2 + 1 → K22 v0 s0 x1 Z I L)
set_option maxHeartbeats 4000000 in
set_option maxRecDepth 100000 in
theorem m_X11_jam_b59 {G : jG} {Z0 : jZ} {Q : Int32 → jZ → jI → jL → Prop} (E : jE G cX11_jam RX11 w_X11_jam 3 (some .int) { frames := 7, cells := 0, slots := 0, locals := 175 } (xrtI Z0 Q)) (K22 : Nat → Int32 → Int32 → jZ → jI → jL → Prop) (hK22 : ∀ (v0 : Nat) (v1 : Int32) (v2 : Int32) (Z : jZ) (I : jI) (L : jL), SH Z → jext Z0 Z → jk Z v0 11 → K22 v0 v1 v2 Z I L → jJ G 3 22 [(0, .ref v0), (1, .int v1), (2, .int v2)] [] Z I L 0 0) (v0 : Nat) (v2 : Int32) (s0 : Int32) (Z : jZ) (I : jI) (L : jL) (hZ : SH Z) (hx : jext Z0 Z) (kv0 : jk Z v0 11) (h : f_X11_jam_b59 K22 Q v0 v2 s0 Z I L) : jJ G 3 59 [(0, .ref v0), (2, .int v2)] [.int s0] Z I L 0 0 := by
  refine j_istore_n E 1 [(1, .int s0), (0, .ref v0), (2, .int v2)] dX11_jam_59 rfl (by decide) rfl ?_
  obtain ⟨x1, ex1⟩ : ∃ y : Int32, y = v2 + 1 := ⟨_, rfl⟩
  have h := h x1 ex1
  refine j_iinc E x1 [(2, .int x1), (1, .int s0), (0, .ref v0)] dX11_jam_60 2 rfl (by rw [ex1]; rfl) (by decide) rfl ?_
  refine j_goto E 22 dX11_jam_63 (by decide) ?_
  refine j_sub [2, 1, 0] rfl ?_
  exact hK22 v0 s0 x1 Z I L hZ hx kv0 h
set_option maxRecDepth 100000 in
def f_X11_jam_L22  (Q : Int32 → jZ → jI → jL → Prop) : Nat → Nat → Int32 → Int32 → jZ → jI → jL → Prop
  | 0 => fun _ _ _ _ _ _ => False
  | n + 1 => fun v0 v1 v2 Z I L => (∀ b2 : Nat, jr Z v0 2 = some b2 → (((I b2 9) ≤ v2 → (∀ b4 : Nat, jr Z v0 10 = some b4 → (∀ b5 : Nat, jr Z b4 5 = some b5 → (vp_in v1 24 ∧ ((¬ (I b5 v1.toNatClampNeg) = 0 → (∀ b8 : Nat, jr Z v0 10 = some b8 → (∀ b9 : Nat, jr Z b8 5 = some b9 → (vp_in v1 24 ∧ (f_X11_tellOne v0 ((I b9 v1.toNatClampNeg).toInt64) Z I L (fun I13 L14 => Q v1 Z I13 L14)))))) ∧ ((I b5 v1.toNatClampNeg) = 0 → Q (-2 : Int32) Z I L)))))) ∧ (¬ ((I b2 9) ≤ v2) → (∀ b16 : Nat, jr Z v0 10 = some b16 → (∀ b17 : Nat, jr Z b16 5 = some b17 → (vp_in v2 24 ∧ (∀ b19 : Nat, jr Z v0 10 = some b19 → (∀ b20 : Nat, jr Z b19 5 = some b20 → (vp_in v1 24 ∧ (((I b17 v2.toNatClampNeg) ≤ (I b20 v1.toNatClampNeg) → f_X11_jam_b59 (f_X11_jam_L22 Q n) Q v0 v2 v1 Z I L) ∧ (¬ ((I b17 v2.toNatClampNeg) ≤ (I b20 v1.toNatClampNeg)) → f_X11_jam_b59 (f_X11_jam_L22 Q n) Q v0 v2 v2 Z I L)))))))))))
set_option maxHeartbeats 4000000 in
set_option maxRecDepth 100000 in
theorem m_X11_jam_L22 {G : jG} {Z0 : jZ} {Q : Int32 → jZ → jI → jL → Prop} (E : jE G cX11_jam RX11 w_X11_jam 3 (some .int) { frames := 7, cells := 0, slots := 0, locals := 175 } (xrtI Z0 Q))  : ∀ (n : Nat) (v0 : Nat) (v1 : Int32) (v2 : Int32) (Z : jZ) (I : jI) (L : jL), SH Z → jext Z0 Z → jk Z v0 11 → f_X11_jam_L22  Q n v0 v1 v2 Z I L → jJ G 3 22 [(0, .ref v0), (1, .int v1), (2, .int v2)] [] Z I L 0 0 := by
  intro n
  induction n with
  | zero => intro v0 v1 v2 Z I L _ _ _ h; exact h.elim
  | succ n ih =>
    intro v0 v1 v2 Z I L hZ hx kv0 h
    have h : (∀ b2 : Nat, jr Z v0 2 = some b2 → (((I b2 9) ≤ v2 → (∀ b4 : Nat, jr Z v0 10 = some b4 → (∀ b5 : Nat, jr Z b4 5 = some b5 → (vp_in v1 24 ∧ ((¬ (I b5 v1.toNatClampNeg) = 0 → (∀ b8 : Nat, jr Z v0 10 = some b8 → (∀ b9 : Nat, jr Z b8 5 = some b9 → (vp_in v1 24 ∧ (f_X11_tellOne v0 ((I b9 v1.toNatClampNeg).toInt64) Z I L (fun I13 L14 => Q v1 Z I13 L14)))))) ∧ ((I b5 v1.toNatClampNeg) = 0 → Q (-2 : Int32) Z I L)))))) ∧ (¬ ((I b2 9) ≤ v2) → (∀ b16 : Nat, jr Z v0 10 = some b16 → (∀ b17 : Nat, jr Z b16 5 = some b17 → (vp_in v2 24 ∧ (∀ b19 : Nat, jr Z v0 10 = some b19 → (∀ b20 : Nat, jr Z b19 5 = some b20 → (vp_in v1 24 ∧ (((I b17 v2.toNatClampNeg) ≤ (I b20 v1.toNatClampNeg) → f_X11_jam_b59 (f_X11_jam_L22 Q n) Q v0 v2 v1 Z I L) ∧ (¬ ((I b17 v2.toNatClampNeg) ≤ (I b20 v1.toNatClampNeg)) → f_X11_jam_b59 (f_X11_jam_L22 Q n) Q v0 v2 v2 Z I L))))))))))) := h
    obtain ⟨K22, eK22⟩ : ∃ K : Nat → Int32 → Int32 → jZ → jI → jL → Prop, K = f_X11_jam_L22  Q n := ⟨_, rfl⟩
    have hK22 := ih
    clear eK22 K22
    generalize f_X11_jam_L22  Q n = K22 at hK22 h
    refine j_iload_n E dX11_jam_22 2 rfl ?_
    refine j_aload_n E dX11_jam_23 0 rfl ?_
    obtain ⟨b2, eb2, kb2⟩ := sh_o hZ kv0 (j := 2) (k := 8) rfl
    have h := h b2 eb2
    refine j_getr E 11 2 rfl rfl (by decide) (by decide) (iw iT_11) rfl rfl (tw W_438) kv0 eb2 dX11_jam_24 ?_
    refine j_getiN E 8 9 rfl rfl (by decide) (by decide) (iw iT_8) rfl rfl (nw_8_9_X11_172) kb2 dX11_jam_27 ?_
    refine j_icmp_ge E 66 dX11_jam_30 (by decide) (fun c3 => ?_) (fun c3 => ?_)
    · have h := h.1 c3
      refine j_aload_n E dX11_jam_66 0 rfl ?_
      obtain ⟨b4, eb4, kb4⟩ := sh_o hZ kv0 (j := 10) (k := 1) rfl
      have h := h b4 eb4
      refine j_getr E 11 10 rfl rfl (by decide) (by decide) (iw iT_11) rfl rfl (tw W_627) kv0 eb4 dX11_jam_67 ?_
      obtain ⟨b5, eb5, kb5, lb5⟩ := sh_f hZ kb4 (j := 5) (k := 14) (m := 24) rfl
      have h := h b5 eb5
      refine j_getrN E 1 5 rfl rfl (by decide) (by decide) (iw iT_1) rfl rfl (nw_1_5_X11_409) kb4 eb5 dX11_jam_70 ?_
      refine j_iload_n E dX11_jam_73 1 rfl ?_
      obtain ⟨o6, h⟩ := h
      refine j_iald E kb5 (by rw [lb5]; exact o6) dX11_jam_74 ?_
      refine j_if_ne E 81 dX11_jam_75 (by decide) (fun c7 => ?_) (fun c7 => ?_)
      · have h := h.1 c7
        refine j_aload_n E dX11_jam_81 0 rfl ?_
        refine j_aload_n E dX11_jam_82 0 rfl ?_
        obtain ⟨b8, eb8, kb8⟩ := sh_o hZ kv0 (j := 10) (k := 1) rfl
        have h := h b8 eb8
        refine j_getr E 11 10 rfl rfl (by decide) (by decide) (iw iT_11) rfl rfl (tw W_627) kv0 eb8 dX11_jam_83 ?_
        obtain ⟨b9, eb9, kb9, lb9⟩ := sh_f hZ kb8 (j := 5) (k := 14) (m := 24) rfl
        have h := h b9 eb9
        refine j_getrN E 1 5 rfl rfl (by decide) (by decide) (iw iT_1) rfl rfl (nw_1_5_X11_409) kb8 eb9 dX11_jam_86 ?_
        refine j_iload_n E dX11_jam_89 1 rfl ?_
        obtain ⟨o10, h⟩ := h
        refine j_iald E kb9 (by rw [lb9]; exact o10) dX11_jam_90 ?_
        refine j_i2l E dX11_jam_91 ?_
        refine j_callV E [.long ((I b9 v1.toNatClampNeg).toInt64)] [] (c_X11_tellOne (gL G) (gD G) (gY G) v0 ((I b9 v1.toNatClampNeg).toInt64) Z I L _ hZ kv0 h) (gwV W_476 W_477 W_478 W_28 W_475) rfl ⟨rfl, fy_X11_tellOne⟩ ⟨by decide, by decide⟩ (c := 11) rfl (by decide) kv0 rfl rfl (Nat.le_of_ble_eq_true rfl) ⟨Nat.zero_le _, Nat.zero_le _⟩ dX11_jam_92 (fun v11 Z12 I13 L14 q15 => ?_)
        obtain ⟨rfl, rfl, h⟩ := q15
        show jJ G 3 95 [(0, .ref v0), (1, .int v1), (2, .int v2)] [] Z I13 L14 0 0
        refine j_iload_n E dX11_jam_95 1 rfl ?_
        exact j_ireturn E ⟨hx, hZ, _, rfl, h⟩ (Nat.zero_le _) (Nat.zero_le _) dX11_jam_96
      · have h := h.2 c7
        refine j_bipush E (v := -2) dX11_jam_78 (by decide) ?_
        exact j_ireturn E ⟨hx, hZ, _, rfl, h⟩ (Nat.zero_le _) (Nat.zero_le _) dX11_jam_80
    · have h := h.2 c3
      refine j_aload_n E dX11_jam_33 0 rfl ?_
      obtain ⟨b16, eb16, kb16⟩ := sh_o hZ kv0 (j := 10) (k := 1) rfl
      have h := h b16 eb16
      refine j_getr E 11 10 rfl rfl (by decide) (by decide) (iw iT_11) rfl rfl (tw W_627) kv0 eb16 dX11_jam_34 ?_
      obtain ⟨b17, eb17, kb17, lb17⟩ := sh_f hZ kb16 (j := 5) (k := 14) (m := 24) rfl
      have h := h b17 eb17
      refine j_getrN E 1 5 rfl rfl (by decide) (by decide) (iw iT_1) rfl rfl (nw_1_5_X11_409) kb16 eb17 dX11_jam_37 ?_
      refine j_iload_n E dX11_jam_40 2 rfl ?_
      obtain ⟨o18, h⟩ := h
      refine j_iald E kb17 (by rw [lb17]; exact o18) dX11_jam_41 ?_
      refine j_aload_n E dX11_jam_42 0 rfl ?_
      obtain ⟨b19, eb19, kb19⟩ := sh_o hZ kv0 (j := 10) (k := 1) rfl
      have h := h b19 eb19
      refine j_getr E 11 10 rfl rfl (by decide) (by decide) (iw iT_11) rfl rfl (tw W_627) kv0 eb19 dX11_jam_43 ?_
      obtain ⟨b20, eb20, kb20, lb20⟩ := sh_f hZ kb19 (j := 5) (k := 14) (m := 24) rfl
      have h := h b20 eb20
      refine j_getrN E 1 5 rfl rfl (by decide) (by decide) (iw iT_1) rfl rfl (nw_1_5_X11_409) kb19 eb20 dX11_jam_46 ?_
      refine j_iload_n E dX11_jam_49 1 rfl ?_
      obtain ⟨o21, h⟩ := h
      refine j_iald E kb20 (by rw [lb20]; exact o21) dX11_jam_50 ?_
      refine j_icmp_le E 58 dX11_jam_51 (by decide) (fun c22 => ?_) (fun c22 => ?_)
      · have h := h.1 c22
        refine j_iload_n E dX11_jam_58 1 rfl ?_
        refine j_sub [0, 2] rfl ?_
        exact m_X11_jam_b59 E K22 hK22 v0 v2 v1 Z I L hZ hx kv0 h
      · have h := h.2 c22
        refine j_iload_n E dX11_jam_54 2 rfl ?_
        refine j_goto E 59 dX11_jam_55 (by decide) ?_
        refine j_sub [0, 2] rfl ?_
        exact m_X11_jam_b59 E K22 hK22 v0 v2 v2 Z I L hZ hx kv0 h
set_option maxRecDepth 100000 in
def f_X11_jam (v0 : Nat) (Z : jZ) (I : jI) (L : jL) (Q : Int32 → jZ → jI → jL → Prop) : Prop := (∀ b23 : Nat, jr Z v0 2 = some b23 → ((¬ (I b23 9) = 0 → (f_X11_hold v0 (1 : Int32) Z I L (fun Z26 I27 L28 => (∃ m22 : Nat, f_X11_jam_L22  Q m22 v0 (0 : Int32) (1 : Int32) Z26 I27 L28)))) ∧ ((I b23 9) = 0 → Q (-2 : Int32) Z I L)))
set_option maxHeartbeats 4000000 in
set_option maxRecDepth 100000 in
theorem c_X11_jam (l : Launch) (D : va_G) (cy : jC) (v0 : Nat) (Z : jZ) (I : jI) (L : jL) (Q : Int32 → jZ → jI → jL → Prop) (hZ : SH Z) (kv0 : jk Z v0 11) (h : f_X11_jam v0 Z I L Q) : jCt l yX11_jam w_X11_jam { frames := 7, cells := 0, slots := 0, locals := 175 } D cy [.ref v0] Z I L (xrtI Z Q) := by
  refine jCt_of (cc := cX11_jam) (maxL := 3) (ret := (some .int)) (by decide +kernel) rfl (Nat.le_of_ble_eq_true rfl) ?_
  intro G eD eY eL E
  subst eD; subst eY; subst eL
  have E : jE G cX11_jam RX11 w_X11_jam 3 (some .int) { frames := 7, cells := 0, slots := 0, locals := 175 } (xrtI Z Q) := E
  have hx : jext Z Z := jext_rfl
  show jJ G 3 0 [(0, .ref v0)] [] Z I L 0 0
  refine j_aload_n E dX11_jam_0 0 rfl ?_
  obtain ⟨b23, eb23, kb23⟩ := sh_o hZ kv0 (j := 2) (k := 8) rfl
  have h := h b23 eb23
  refine j_getr E 11 2 rfl rfl (by decide) (by decide) (iw iT_11) rfl rfl (tw W_438) kv0 eb23 dX11_jam_1 ?_
  refine j_getiN E 8 9 rfl rfl (by decide) (by decide) (iw iT_8) rfl rfl (nw_8_9_X11_172) kb23 dX11_jam_4 ?_
  refine j_if_ne E 13 dX11_jam_7 (by decide) (fun c24 => ?_) (fun c24 => ?_)
  · have h := h.1 c24
    refine j_aload_n E dX11_jam_13 0 rfl ?_
    refine j_iconst E (v := 1) dX11_jam_14 (by decide) ?_
    refine j_callV E [.int (1 : Int32)] [] (c_X11_hold (gL G) (gD G) (gY G) v0 (1 : Int32) Z I L _ hZ kv0 h) (gwV W_641 W_642 W_643 W_28 W_640) rfl ⟨rfl, fy_X11_hold⟩ ⟨by decide, by decide⟩ (c := 11) rfl (by decide) kv0 rfl rfl (Nat.le_of_ble_eq_true rfl) ⟨Nat.zero_le _, Nat.zero_le _⟩ dX11_jam_15 (fun v25 Z26 I27 L28 q29 => ?_)
    obtain ⟨yZ26, hZ26, rfl, h⟩ := q29
    have hZ := hZ26
    have hx : jext Z Z26 := jext_trans hx yZ26
    have k30 := (yZ26 _ _ kv0).1
    show jJ G 3 18 [(0, .ref v0)] [] Z26 I27 L28 0 0
    refine j_iconst E (v := 0) dX11_jam_18 (by decide) ?_
    refine j_istore_n E 1 [(1, .int (0 : Int32)), (0, .ref v0)] dX11_jam_19 rfl (by decide) rfl ?_
    refine j_iconst E (v := 1) dX11_jam_20 (by decide) ?_
    refine j_istore_n E 2 [(2, .int (1 : Int32)), (1, .int (0 : Int32)), (0, .ref v0)] dX11_jam_21 rfl (by decide) rfl ?_
    obtain ⟨n31, h⟩ := h
    refine j_sub [2, 1, 0] rfl ?_
    exact m_X11_jam_L22 E  n31 v0 (0 : Int32) (1 : Int32) Z26 I27 L28 hZ hx k30 h
  · have h := h.2 c24
    refine j_bipush E (v := -2) dX11_jam_10 (by decide) ?_
    exact j_ireturn E ⟨hx, hZ, _, rfl, h⟩ (Nat.zero_le _) (Nat.zero_le _) dX11_jam_12
set_option maxRecDepth 100000 in
def f_X11_keep_b82 (K55 : Nat → Nat → Int32 → jI → jL → Prop) (Z : jZ) (Q : Int32 → jI → jL → Prop) (v0 : Nat) (v2 : Nat) (v3 : Int32) (I : jI) (L : jL) : Prop := (∀ x1 : Int32, x1 = v3 + 1 → K55 v0 v2 x1 I L)
set_option maxHeartbeats 4000000 in
set_option maxRecDepth 100000 in
theorem m_X11_keep_b82 {G : jG} {Z : jZ} {Q : Int32 → jI → jL → Prop} (E : jE G cX11_keep RX11 w_X11_keep 5 (some .boolean) { frames := 2, cells := 0, slots := 0, locals := 69 } (rtZ Z Q)) (hZ : SH Z) (K55 : Nat → Nat → Int32 → jI → jL → Prop) (hK55 : ∀ (v0 : Nat) (v2 : Nat) (v3 : Int32) (I : jI) (L : jL), jk Z v0 11 → jk Z v2 2 → K55 v0 v2 v3 I L → jJ G 5 55 [(0, .ref v0), (2, .ref v2), (3, .int v3)] [] Z I L 0 0) (v0 : Nat) (v2 : Nat) (v3 : Int32) (I : jI) (L : jL) (kv0 : jk Z v0 11) (kv2 : jk Z v2 2) (h : f_X11_keep_b82 K55 Z Q v0 v2 v3 I L) : jJ G 5 82 [(0, .ref v0), (2, .ref v2), (3, .int v3)] [] Z I L 0 0 := by
  obtain ⟨x1, ex1⟩ : ∃ y : Int32, y = v3 + 1 := ⟨_, rfl⟩
  have h := h x1 ex1
  refine j_iinc E x1 [(3, .int x1), (0, .ref v0), (2, .ref v2)] dX11_keep_82 2 rfl (by rw [ex1]; rfl) (by decide) rfl ?_
  refine j_goto E 55 dX11_keep_85 (by decide) ?_
  refine j_sub [1, 2, 0] rfl ?_
  exact hK55 v0 v2 x1 I L kv0 kv2 h
set_option maxRecDepth 100000 in
def f_X11_keep_L55  (Z : jZ) (Q : Int32 → jI → jL → Prop) : Nat → Nat → Nat → Int32 → jI → jL → Prop
  | 0 => fun _ _ _ _ _ => False
  | n + 1 => fun v0 v2 v3 I L => (((I v0 4) ≤ v3 → (∀ I3 : jI, I3 = jpI I v2 8 (1 : Int32) → Q (1 : Int32) I3 L)) ∧ (¬ ((I v0 4) ≤ v3) → (f_X11_find v0 v3 Z I L (fun r9 I6 L7 => ((r9 = none → f_X11_keep_b82 (f_X11_keep_L55 Z Q n) Z Q v0 v2 v3 I6 L7) ∧ (∀ b10 : Nat, r9 = some b10 → (f_X2_putPilgrim v2 v3 b10 Z I6 L7 (fun I14 L15 => f_X11_keep_b82 (f_X11_keep_L55 Z Q n) Z Q v0 v2 v3 I14 L15))))))))
set_option maxHeartbeats 4000000 in
set_option maxRecDepth 100000 in
theorem m_X11_keep_L55 {G : jG} {Z : jZ} {Q : Int32 → jI → jL → Prop} (E : jE G cX11_keep RX11 w_X11_keep 5 (some .boolean) { frames := 2, cells := 0, slots := 0, locals := 69 } (rtZ Z Q)) (hZ : SH Z)  : ∀ (n : Nat) (v0 : Nat) (v2 : Nat) (v3 : Int32) (I : jI) (L : jL), jk Z v0 11 → jk Z v2 2 → f_X11_keep_L55  Z Q n v0 v2 v3 I L → jJ G 5 55 [(0, .ref v0), (2, .ref v2), (3, .int v3)] [] Z I L 0 0 := by
  intro n
  induction n with
  | zero => intro v0 v2 v3 I L _ _ h; exact h.elim
  | succ n ih =>
    intro v0 v2 v3 I L kv0 kv2 h
    have h : (((I v0 4) ≤ v3 → (∀ I3 : jI, I3 = jpI I v2 8 (1 : Int32) → Q (1 : Int32) I3 L)) ∧ (¬ ((I v0 4) ≤ v3) → (f_X11_find v0 v3 Z I L (fun r9 I6 L7 => ((r9 = none → f_X11_keep_b82 (f_X11_keep_L55 Z Q n) Z Q v0 v2 v3 I6 L7) ∧ (∀ b10 : Nat, r9 = some b10 → (f_X2_putPilgrim v2 v3 b10 Z I6 L7 (fun I14 L15 => f_X11_keep_b82 (f_X11_keep_L55 Z Q n) Z Q v0 v2 v3 I14 L15)))))))) := h
    obtain ⟨K55, eK55⟩ : ∃ K : Nat → Nat → Int32 → jI → jL → Prop, K = f_X11_keep_L55  Z Q n := ⟨_, rfl⟩
    have hK55 := ih
    clear eK55 K55
    generalize f_X11_keep_L55  Z Q n = K55 at hK55 h
    refine j_iload_n E dX11_keep_55 2 rfl ?_
    refine j_aload_n E dX11_keep_56 0 rfl ?_
    refine j_geti E 11 4 rfl rfl (by decide) (by decide) (iw iT_11) rfl rfl (tw W_415) kv0 dX11_keep_57 ?_
    refine j_icmp_ge E 88 dX11_keep_60 (by decide) (fun c2 => ?_) (fun c2 => ?_)
    · have h := h.1 c2
      refine j_aload_n E dX11_keep_88 1 rfl ?_
      refine j_iconst E (v := 1) dX11_keep_89 (by decide) ?_
      refine j_putiN E 2 8 rfl rfl (by decide) (by decide) (iw iT_2) tyX2_ok nmX2 rfl rfl (nw_2_8_X11_124) rfl rfl rfl kv2 dX11_keep_90 ?_
      refine j_nmI (fun I3 eI3 => ?_)
      have h := h I3 eI3
      refine j_iconst E (v := 1) dX11_keep_93 (by decide) ?_
      exact j_zreturn E (Or.inr rfl) ⟨rfl, _, rfl, (Or.inr rfl), h⟩ (Nat.zero_le _) (Nat.zero_le _) dX11_keep_94
    · have h := h.2 c2
      refine j_aload_n E dX11_keep_63 0 rfl ?_
      refine j_iload_n E dX11_keep_64 2 rfl ?_
      refine j_callV E [.int v3] [] (c_X11_find (gL G) (gD G) (gY G) v0 v3 Z I L _ hZ kv0 h) (gwV W_421 W_422 W_423 W_28 W_420) rfl ⟨rfl, fy_X11_find⟩ ⟨by decide, by decide⟩ (c := 11) rfl (by decide) kv0 rfl rfl (Nat.le_of_ble_eq_true rfl) ⟨Nat.zero_le _, Nat.zero_le _⟩ dX11_keep_65 (fun v4 Z5 I6 L7 q8 => ?_)
      obtain ⟨rfl, r9, rfl, zr9, h⟩ := q8
      show jJ G 5 68 [(0, .ref v0), (2, .ref v2), (3, .int v3)] (va_rf r9 :: []) Z I6 L7 0 0
      rcases c11 : r9 with _ | b10
      · have h := h.1 c11
        refine j_rfN rfl ?_
        refine j_astoreN E 4 [(4, .null), (0, .ref v0), (2, .ref v2), (3, .int v3)] dX11_keep_68 (by decide) rfl ?_
        refine j_aloadN E dX11_keep_70 0 rfl ?_
        refine j_ifnullN E 82 dX11_keep_72 (by decide) ?_
        refine j_sub [1, 2, 3] rfl ?_
        exact m_X11_keep_b82 E hZ K55 hK55 v0 v2 v3 I6 L7 kv0 kv2 h
      · have h := h.2 b10 c11
        have kb10 := zr9 b10 c11
        refine j_rfS rfl ?_
        refine j_astore E 4 [(4, .ref b10), (0, .ref v0), (2, .ref v2), (3, .int v3)] dX11_keep_68 (by decide) rfl ?_
        refine j_aload E dX11_keep_70 0 rfl ?_
        refine j_ifnull E dX11_keep_72 ?_
        refine j_aload_n E dX11_keep_75 2 rfl ?_
        refine j_iload_n E dX11_keep_76 3 rfl ?_
        refine j_aload E dX11_keep_77 0 rfl ?_
        refine j_callV E [.int v3, .ref b10] [] (c_X2_putPilgrim (gL G) (gD G) (gY G) v2 v3 b10 Z I6 L7 _ hZ kv2 kb10 h) (gwV W_650 W_651 W_652 W_649 W_648) rfl ⟨rfl, fy_X2_putPilgrim⟩ ⟨by decide, by decide⟩ (c := 2) rfl (by decide) kv2 rfl rfl (Nat.le_of_ble_eq_true rfl) ⟨Nat.zero_le _, Nat.zero_le _⟩ dX11_keep_79 (fun v12 Z13 I14 L15 q16 => ?_)
        obtain ⟨rfl, rfl, h⟩ := q16
        show jJ G 5 82 [(4, .ref b10), (0, .ref v0), (2, .ref v2), (3, .int v3)] [] Z I14 L15 0 0
        refine j_sub [1, 2, 3] rfl ?_
        exact m_X11_keep_b82 E hZ K55 hK55 v0 v2 v3 I14 L15 kv0 kv2 h
set_option maxRecDepth 100000 in
def f_X11_keep (v0 : Nat) (v1 : Int32) (Z : jZ) (I : jI) (L : jL) (Q : Int32 → jI → jL → Prop) : Prop := ((v1 < 0 → Q (0 : Int32) I L) ∧ (¬ (v1 < 0) → (∀ b18 : Nat, jr Z v0 8 = some b18 → ((v1 < (2 : Int32) → (∀ b20 : Nat, jr Z v0 8 = some b20 → (vp_in v1 2 ∧ (∀ b22 : Nat, jr Z b20 v1.toNatClampNeg = some b22 → (∀ b23 : Nat, jr Z v0 2 = some b23 → (f_X2_putStairs b22 b23 Z I L (fun I26 L27 => (∀ b29 : Nat, jr Z v0 5 = some b29 → (∀ b30 : Nat, jr Z b22 3 = some b30 → ((¬ (0 : Int32) < 0 ∧ ¬ (0 : Int32) < 0 ∧ ¬ (8 : Int32) < 0 ∧ (0 : Int32).toNatClampNeg + (8 : Int32).toNatClampNeg ≤ 8 ∧ (0 : Int32).toNatClampNeg + (8 : Int32).toNatClampNeg ≤ 8) ∧ (∀ I32 : jI, I32 = va_up I26 b30 (va_cpy (I26 b29) (I26 b30) (0 : Int32).toNatClampNeg (0 : Int32).toNatClampNeg (8 : Int32).toNatClampNeg) → (∀ I33 : jI, I33 = jpI I32 b22 7 (I32 v0 4) → (∃ m55 : Nat, f_X11_keep_L55  Z Q m55 v0 b22 (0 : Int32) I33 L27))))))))))))) ∧ (¬ (v1 < (2 : Int32)) → Q (0 : Int32) I L)))))
set_option maxHeartbeats 4000000 in
set_option maxRecDepth 100000 in
theorem c_X11_keep (l : Launch) (D : va_G) (cy : jC) (v0 : Nat) (v1 : Int32) (Z : jZ) (I : jI) (L : jL) (Q : Int32 → jI → jL → Prop) (hZ : SH Z) (kv0 : jk Z v0 11) (h : f_X11_keep v0 v1 Z I L Q) : jCt l yX11_keep w_X11_keep { frames := 2, cells := 0, slots := 0, locals := 69 } D cy [.ref v0, .int v1] Z I L (rtZ Z Q) := by
  refine jCt_of (cc := cX11_keep) (maxL := 5) (ret := (some .boolean)) (by decide +kernel) rfl (Nat.le_of_ble_eq_true rfl) ?_
  intro G eD eY eL E
  subst eD; subst eY; subst eL
  have E : jE G cX11_keep RX11 w_X11_keep 5 (some .boolean) { frames := 2, cells := 0, slots := 0, locals := 69 } (rtZ Z Q) := E
  show jJ G 5 0 [(0, .ref v0), (1, .int v1)] [] Z I L 0 0
  refine j_iload_n E dX11_keep_0 1 rfl ?_
  refine j_if_lt E 13 dX11_keep_1 (by decide) (fun c17 => ?_) (fun c17 => ?_)
  · have h := h.1 c17
    refine j_iconst E (v := 0) dX11_keep_13 (by decide) ?_
    exact j_zreturn E (Or.inl rfl) ⟨rfl, _, rfl, (Or.inl rfl), h⟩ (Nat.zero_le _) (Nat.zero_le _) dX11_keep_14
  · have h := h.2 c17
    refine j_iload_n E dX11_keep_4 1 rfl ?_
    refine j_aload_n E dX11_keep_5 0 rfl ?_
    obtain ⟨b18, eb18, kb18, lb18⟩ := sh_f hZ kv0 (j := 8) (k := 17) (m := 2) rfl
    have h := h b18 eb18
    refine j_getr E 11 8 rfl rfl (by decide) (by decide) (iw iT_11) rfl rfl (tw W_417) kv0 eb18 dX11_keep_6 ?_
    refine j_alen17 E (v := 2) kb18 (by rw [lb18]; rfl) dX11_keep_9 ?_
    refine j_icmp_lt E 15 dX11_keep_10 (by decide) (fun c19 => ?_) (fun c19 => ?_)
    · have h := h.1 c19
      refine j_aload_n E dX11_keep_15 0 rfl ?_
      obtain ⟨b20, eb20, kb20, lb20⟩ := sh_f hZ kv0 (j := 8) (k := 17) (m := 2) rfl
      have h := h b20 eb20
      refine j_getr E 11 8 rfl rfl (by decide) (by decide) (iw iT_11) rfl rfl (tw W_417) kv0 eb20 dX11_keep_16 ?_
      refine j_iload_n E dX11_keep_19 1 rfl ?_
      obtain ⟨o21, h⟩ := h
      refine j_aald17 E kb20 (by rw [lb20]; exact o21) dX11_keep_20 ?_
      obtain ⟨b22, eb22, kb22⟩ := sh_k hZ kb20 (by rw [lb20]; exact o21)
      have h := h b22 eb22
      refine j_rfS eb22 ?_
      refine j_astore_n E 2 [(2, .ref b22), (0, .ref v0), (1, .int v1)] dX11_keep_21 rfl (by decide) rfl ?_
      refine j_aload_n E dX11_keep_22 0 rfl ?_
      refine j_aload_n E dX11_keep_23 1 rfl ?_
      obtain ⟨b23, eb23, kb23⟩ := sh_o hZ kv0 (j := 2) (k := 8) rfl
      have h := h b23 eb23
      refine j_getr E 11 2 rfl rfl (by decide) (by decide) (iw iT_11) rfl rfl (tw W_438) kv0 eb23 dX11_keep_24 ?_
      refine j_callV E [.ref b23] [] (c_X2_putStairs (gL G) (gD G) (gY G) b22 b23 Z I L _ hZ kb22 kb23 h) (gwV W_654 W_655 W_656 W_649 W_653) rfl ⟨rfl, fy_X2_putStairs⟩ ⟨by decide, by decide⟩ (c := 2) rfl (by decide) kb22 rfl rfl (Nat.le_of_ble_eq_true rfl) ⟨Nat.zero_le _, Nat.zero_le _⟩ dX11_keep_27 (fun v24 Z25 I26 L27 q28 => ?_)
      obtain ⟨rfl, rfl, h⟩ := q28
      show jJ G 5 30 [(2, .ref b22), (0, .ref v0), (1, .int v1)] [] Z I26 L27 0 0
      refine j_aload_n E dX11_keep_30 1 rfl ?_
      obtain ⟨b29, eb29, kb29, lb29⟩ := sh_f hZ kv0 (j := 5) (k := 14) (m := 8) rfl
      have h := h b29 eb29
      refine j_getr E 11 5 rfl rfl (by decide) (by decide) (iw iT_11) rfl rfl (tw W_418) kv0 eb29 dX11_keep_31 ?_
      refine j_iconst E (v := 0) dX11_keep_34 (by decide) ?_
      refine j_aload_n E dX11_keep_35 0 rfl ?_
      obtain ⟨b30, eb30, kb30, lb30⟩ := sh_f hZ kb22 (j := 3) (k := 14) (m := 8) rfl
      have h := h b30 eb30
      refine j_getrN E 2 3 rfl rfl (by decide) (by decide) (iw iT_2) rfl rfl (nw_2_3_X11_416) kb22 eb30 dX11_keep_36 ?_
      refine j_iconst E (v := 0) dX11_keep_39 (by decide) ?_
      refine j_bipush E (v := 8) dX11_keep_40 (by decide) ?_
      obtain ⟨o31, h⟩ := h
      refine j_copyi E (tw W_576) (tw W_146) (tw W_147) (tw W_148) kb29 kb30 o31.1 o31.2.1 o31.2.2.1 (by rw [lb29]; exact o31.2.2.2.1) (by rw [lb30]; exact o31.2.2.2.2) (by decide) (Nat.le_of_ble_eq_true rfl) dX11_keep_42 ?_
      refine j_nmI (fun I32 eI32 => ?_)
      have h := h I32 eI32
      refine j_aload_n E dX11_keep_45 0 rfl ?_
      refine j_aload_n E dX11_keep_46 1 rfl ?_
      refine j_geti E 11 4 rfl rfl (by decide) (by decide) (iw iT_11) rfl rfl (tw W_415) kv0 dX11_keep_47 ?_
      refine j_putiN E 2 7 rfl rfl (by decide) (by decide) (iw iT_2) tyX2_ok nmX2 rfl rfl (nw_2_7_X11_419) rfl rfl rfl kb22 dX11_keep_50 ?_
      refine j_nmI (fun I33 eI33 => ?_)
      have h := h I33 eI33
      refine j_iconst E (v := 0) dX11_keep_53 (by decide) ?_
      refine j_istore_n E 3 [(3, .int (0 : Int32)), (2, .ref b22), (0, .ref v0), (1, .int v1)] dX11_keep_54 rfl (by decide) rfl ?_
      obtain ⟨n34, h⟩ := h
      refine j_sub [2, 1, 0] rfl ?_
      exact m_X11_keep_L55 E hZ  n34 v0 b22 (0 : Int32) I33 L27 kv0 kb22 h
    · have h := h.2 c19
      refine j_iconst E (v := 0) dX11_keep_13 (by decide) ?_
      exact j_zreturn E (Or.inl rfl) ⟨rfl, _, rfl, (Or.inl rfl), h⟩ (Nat.zero_le _) (Nat.zero_le _) dX11_keep_14
set_option maxRecDepth 100000 in
def f_X11_again_b94 (K59 : Nat → Nat → Int32 → jI → jL → Prop) (Z : jZ) (Q : Int32 → jI → jL → Prop) (v0 : Nat) (v2 : Nat) (v3 : Int32) (I : jI) (L : jL) : Prop := (∀ x1 : Int32, x1 = v3 + 1 → K59 v0 v2 x1 I L)
set_option maxHeartbeats 4000000 in
set_option maxRecDepth 100000 in
theorem m_X11_again_b94 {G : jG} {Z : jZ} {Q : Int32 → jI → jL → Prop} (E : jE G cX11_again RX11 w_X11_again 5 (some .boolean) { frames := 4, cells := 0, slots := 0, locals := 90 } (rtZ Z Q)) (hZ : SH Z) (K59 : Nat → Nat → Int32 → jI → jL → Prop) (hK59 : ∀ (v0 : Nat) (v2 : Nat) (v3 : Int32) (I : jI) (L : jL), jk Z v0 11 → jk Z v2 2 → K59 v0 v2 v3 I L → jJ G 5 59 [(0, .ref v0), (2, .ref v2), (3, .int v3)] [] Z I L 0 0) (v0 : Nat) (v2 : Nat) (v3 : Int32) (I : jI) (L : jL) (kv0 : jk Z v0 11) (kv2 : jk Z v2 2) (h : f_X11_again_b94 K59 Z Q v0 v2 v3 I L) : jJ G 5 94 [(0, .ref v0), (2, .ref v2), (3, .int v3)] [] Z I L 0 0 := by
  obtain ⟨x1, ex1⟩ : ∃ y : Int32, y = v3 + 1 := ⟨_, rfl⟩
  have h := h x1 ex1
  refine j_iinc E x1 [(3, .int x1), (0, .ref v0), (2, .ref v2)] dX11_again_94 2 rfl (by rw [ex1]; rfl) (by decide) rfl ?_
  refine j_goto E 59 dX11_again_97 (by decide) ?_
  refine j_sub [1, 2, 0] rfl ?_
  exact hK59 v0 v2 x1 I L kv0 kv2 h
set_option maxRecDepth 100000 in
def f_X11_again_L59  (Z : jZ) (Q : Int32 → jI → jL → Prop) : Nat → Nat → Nat → Int32 → jI → jL → Prop
  | 0 => fun _ _ _ _ _ => False
  | n + 1 => fun v0 v2 v3 I L => (((I v2 7) ≤ v3 → Q (1 : Int32) I L) ∧ (¬ ((I v2 7) ≤ v3) → (((I v0 4) ≤ v3 → Q (1 : Int32) I L) ∧ (¬ ((I v0 4) ≤ v3) → (f_X11_find v0 v3 Z I L (fun r9 I6 L7 => ((r9 = none → f_X11_again_b94 (f_X11_again_L59 Z Q n) Z Q v0 v2 v3 I6 L7) ∧ (∀ b10 : Nat, r9 = some b10 → (f_X2_getPilgrim v2 v3 b10 Z I6 L7 (fun I14 L15 => f_X11_again_b94 (f_X11_again_L59 Z Q n) Z Q v0 v2 v3 I14 L15))))))))))
set_option maxHeartbeats 4000000 in
set_option maxRecDepth 100000 in
theorem m_X11_again_L59 {G : jG} {Z : jZ} {Q : Int32 → jI → jL → Prop} (E : jE G cX11_again RX11 w_X11_again 5 (some .boolean) { frames := 4, cells := 0, slots := 0, locals := 90 } (rtZ Z Q)) (hZ : SH Z)  : ∀ (n : Nat) (v0 : Nat) (v2 : Nat) (v3 : Int32) (I : jI) (L : jL), jk Z v0 11 → jk Z v2 2 → f_X11_again_L59  Z Q n v0 v2 v3 I L → jJ G 5 59 [(0, .ref v0), (2, .ref v2), (3, .int v3)] [] Z I L 0 0 := by
  intro n
  induction n with
  | zero => intro v0 v2 v3 I L _ _ h; exact h.elim
  | succ n ih =>
    intro v0 v2 v3 I L kv0 kv2 h
    have h : (((I v2 7) ≤ v3 → Q (1 : Int32) I L) ∧ (¬ ((I v2 7) ≤ v3) → (((I v0 4) ≤ v3 → Q (1 : Int32) I L) ∧ (¬ ((I v0 4) ≤ v3) → (f_X11_find v0 v3 Z I L (fun r9 I6 L7 => ((r9 = none → f_X11_again_b94 (f_X11_again_L59 Z Q n) Z Q v0 v2 v3 I6 L7) ∧ (∀ b10 : Nat, r9 = some b10 → (f_X2_getPilgrim v2 v3 b10 Z I6 L7 (fun I14 L15 => f_X11_again_b94 (f_X11_again_L59 Z Q n) Z Q v0 v2 v3 I14 L15)))))))))) := h
    obtain ⟨K59, eK59⟩ : ∃ K : Nat → Nat → Int32 → jI → jL → Prop, K = f_X11_again_L59  Z Q n := ⟨_, rfl⟩
    have hK59 := ih
    clear eK59 K59
    generalize f_X11_again_L59  Z Q n = K59 at hK59 h
    refine j_iload_n E dX11_again_59 2 rfl ?_
    refine j_aload_n E dX11_again_60 1 rfl ?_
    refine j_getiN E 2 7 rfl rfl (by decide) (by decide) (iw iT_2) rfl rfl (nw_2_7_X11_419) kv2 dX11_again_61 ?_
    refine j_icmp_ge E 100 dX11_again_64 (by decide) (fun c2 => ?_) (fun c2 => ?_)
    · have h := h.1 c2
      refine j_iconst E (v := 1) dX11_again_100 (by decide) ?_
      exact j_zreturn E (Or.inr rfl) ⟨rfl, _, rfl, (Or.inr rfl), h⟩ (Nat.zero_le _) (Nat.zero_le _) dX11_again_101
    · have h := h.2 c2
      refine j_iload_n E dX11_again_67 2 rfl ?_
      refine j_aload_n E dX11_again_68 0 rfl ?_
      refine j_geti E 11 4 rfl rfl (by decide) (by decide) (iw iT_11) rfl rfl (tw W_415) kv0 dX11_again_69 ?_
      refine j_icmp_ge E 100 dX11_again_72 (by decide) (fun c3 => ?_) (fun c3 => ?_)
      · have h := h.1 c3
        refine j_iconst E (v := 1) dX11_again_100 (by decide) ?_
        exact j_zreturn E (Or.inr rfl) ⟨rfl, _, rfl, (Or.inr rfl), h⟩ (Nat.zero_le _) (Nat.zero_le _) dX11_again_101
      · have h := h.2 c3
        refine j_aload_n E dX11_again_75 0 rfl ?_
        refine j_iload_n E dX11_again_76 2 rfl ?_
        refine j_callV E [.int v3] [] (c_X11_find (gL G) (gD G) (gY G) v0 v3 Z I L _ hZ kv0 h) (gwV W_421 W_422 W_423 W_28 W_420) rfl ⟨rfl, fy_X11_find⟩ ⟨by decide, by decide⟩ (c := 11) rfl (by decide) kv0 rfl rfl (Nat.le_of_ble_eq_true rfl) ⟨Nat.zero_le _, Nat.zero_le _⟩ dX11_again_77 (fun v4 Z5 I6 L7 q8 => ?_)
        obtain ⟨rfl, r9, rfl, zr9, h⟩ := q8
        show jJ G 5 80 [(0, .ref v0), (2, .ref v2), (3, .int v3)] (va_rf r9 :: []) Z I6 L7 0 0
        rcases c11 : r9 with _ | b10
        · have h := h.1 c11
          refine j_rfN rfl ?_
          refine j_astoreN E 4 [(4, .null), (0, .ref v0), (2, .ref v2), (3, .int v3)] dX11_again_80 (by decide) rfl ?_
          refine j_aloadN E dX11_again_82 0 rfl ?_
          refine j_ifnullN E 94 dX11_again_84 (by decide) ?_
          refine j_sub [1, 2, 3] rfl ?_
          exact m_X11_again_b94 E hZ K59 hK59 v0 v2 v3 I6 L7 kv0 kv2 h
        · have h := h.2 b10 c11
          have kb10 := zr9 b10 c11
          refine j_rfS rfl ?_
          refine j_astore E 4 [(4, .ref b10), (0, .ref v0), (2, .ref v2), (3, .int v3)] dX11_again_80 (by decide) rfl ?_
          refine j_aload E dX11_again_82 0 rfl ?_
          refine j_ifnull E dX11_again_84 ?_
          refine j_aload_n E dX11_again_87 2 rfl ?_
          refine j_iload_n E dX11_again_88 3 rfl ?_
          refine j_aload E dX11_again_89 0 rfl ?_
          refine j_callV E [.int v3, .ref b10] [] (c_X2_getPilgrim (gL G) (gD G) (gY G) v2 v3 b10 Z I6 L7 _ hZ kv2 kb10 h) (gwV W_658 W_659 W_660 W_649 W_657) rfl ⟨rfl, fy_X2_getPilgrim⟩ ⟨by decide, by decide⟩ (c := 2) rfl (by decide) kv2 rfl rfl (Nat.le_of_ble_eq_true rfl) ⟨Nat.zero_le _, Nat.zero_le _⟩ dX11_again_91 (fun v12 Z13 I14 L15 q16 => ?_)
          obtain ⟨rfl, rfl, h⟩ := q16
          show jJ G 5 94 [(4, .ref b10), (0, .ref v0), (2, .ref v2), (3, .int v3)] [] Z I14 L15 0 0
          refine j_sub [1, 2, 3] rfl ?_
          exact m_X11_again_b94 E hZ K59 hK59 v0 v2 v3 I14 L15 kv0 kv2 h
set_option maxRecDepth 100000 in
def f_X11_again (v0 : Nat) (v1 : Int32) (Z : jZ) (I : jI) (L : jL) (Q : Int32 → jI → jL → Prop) : Prop := ((v1 < 0 → Q (0 : Int32) I L) ∧ (¬ (v1 < 0) → (∀ b18 : Nat, jr Z v0 8 = some b18 → (((2 : Int32) ≤ v1 → Q (0 : Int32) I L) ∧ (¬ ((2 : Int32) ≤ v1) → (∀ b20 : Nat, jr Z v0 8 = some b20 → (vp_in v1 2 ∧ (∀ b22 : Nat, jr Z b20 v1.toNatClampNeg = some b22 → ((¬ (I b22 8) = 0 → (∀ b24 : Nat, jr Z v0 8 = some b24 → (vp_in v1 2 ∧ (∀ b26 : Nat, jr Z b24 v1.toNatClampNeg = some b26 → (∀ b27 : Nat, jr Z v0 2 = some b27 → (f_X2_getStairs b26 b27 Z I L (fun I30 L31 => (∀ b33 : Nat, jr Z b26 3 = some b33 → (∀ b34 : Nat, jr Z v0 5 = some b34 → ((¬ (0 : Int32) < 0 ∧ ¬ (0 : Int32) < 0 ∧ ¬ (8 : Int32) < 0 ∧ (0 : Int32).toNatClampNeg + (8 : Int32).toNatClampNeg ≤ 8 ∧ (0 : Int32).toNatClampNeg + (8 : Int32).toNatClampNeg ≤ 8) ∧ (∀ I36 : jI, I36 = va_up I30 b34 (va_cpy (I30 b33) (I30 b34) (0 : Int32).toNatClampNeg (0 : Int32).toNatClampNeg (8 : Int32).toNatClampNeg) → (∃ m59 : Nat, f_X11_again_L59  Z Q m59 v0 b26 (0 : Int32) I36 L31)))))))))))) ∧ ((I b22 8) = 0 → Q (0 : Int32) I L))))))))))
set_option maxHeartbeats 4000000 in
set_option maxRecDepth 100000 in
theorem c_X11_again (l : Launch) (D : va_G) (cy : jC) (v0 : Nat) (v1 : Int32) (Z : jZ) (I : jI) (L : jL) (Q : Int32 → jI → jL → Prop) (hZ : SH Z) (kv0 : jk Z v0 11) (h : f_X11_again v0 v1 Z I L Q) : jCt l yX11_again w_X11_again { frames := 4, cells := 0, slots := 0, locals := 90 } D cy [.ref v0, .int v1] Z I L (rtZ Z Q) := by
  refine jCt_of (cc := cX11_again) (maxL := 5) (ret := (some .boolean)) (by decide +kernel) rfl (Nat.le_of_ble_eq_true rfl) ?_
  intro G eD eY eL E
  subst eD; subst eY; subst eL
  have E : jE G cX11_again RX11 w_X11_again 5 (some .boolean) { frames := 4, cells := 0, slots := 0, locals := 90 } (rtZ Z Q) := E
  show jJ G 5 0 [(0, .ref v0), (1, .int v1)] [] Z I L 0 0
  refine j_iload_n E dX11_again_0 1 rfl ?_
  refine j_if_lt E 25 dX11_again_1 (by decide) (fun c17 => ?_) (fun c17 => ?_)
  · have h := h.1 c17
    refine j_iconst E (v := 0) dX11_again_25 (by decide) ?_
    exact j_zreturn E (Or.inl rfl) ⟨rfl, _, rfl, (Or.inl rfl), h⟩ (Nat.zero_le _) (Nat.zero_le _) dX11_again_26
  · have h := h.2 c17
    refine j_iload_n E dX11_again_4 1 rfl ?_
    refine j_aload_n E dX11_again_5 0 rfl ?_
    obtain ⟨b18, eb18, kb18, lb18⟩ := sh_f hZ kv0 (j := 8) (k := 17) (m := 2) rfl
    have h := h b18 eb18
    refine j_getr E 11 8 rfl rfl (by decide) (by decide) (iw iT_11) rfl rfl (tw W_417) kv0 eb18 dX11_again_6 ?_
    refine j_alen17 E (v := 2) kb18 (by rw [lb18]; rfl) dX11_again_9 ?_
    refine j_icmp_ge E 25 dX11_again_10 (by decide) (fun c19 => ?_) (fun c19 => ?_)
    · have h := h.1 c19
      refine j_iconst E (v := 0) dX11_again_25 (by decide) ?_
      exact j_zreturn E (Or.inl rfl) ⟨rfl, _, rfl, (Or.inl rfl), h⟩ (Nat.zero_le _) (Nat.zero_le _) dX11_again_26
    · have h := h.2 c19
      refine j_aload_n E dX11_again_13 0 rfl ?_
      obtain ⟨b20, eb20, kb20, lb20⟩ := sh_f hZ kv0 (j := 8) (k := 17) (m := 2) rfl
      have h := h b20 eb20
      refine j_getr E 11 8 rfl rfl (by decide) (by decide) (iw iT_11) rfl rfl (tw W_417) kv0 eb20 dX11_again_14 ?_
      refine j_iload_n E dX11_again_17 1 rfl ?_
      obtain ⟨o21, h⟩ := h
      refine j_aald17 E kb20 (by rw [lb20]; exact o21) dX11_again_18 ?_
      obtain ⟨b22, eb22, kb22⟩ := sh_k hZ kb20 (by rw [lb20]; exact o21)
      have h := h b22 eb22
      refine j_rfS eb22 ?_
      refine j_getiN E 2 8 rfl rfl (by decide) (by decide) (iw iT_2) rfl rfl (nw_2_8_X11_124) kb22 dX11_again_19 ?_
      refine j_if_ne E 27 dX11_again_22 (by decide) (fun c23 => ?_) (fun c23 => ?_)
      · have h := h.1 c23
        refine j_aload_n E dX11_again_27 0 rfl ?_
        obtain ⟨b24, eb24, kb24, lb24⟩ := sh_f hZ kv0 (j := 8) (k := 17) (m := 2) rfl
        have h := h b24 eb24
        refine j_getr E 11 8 rfl rfl (by decide) (by decide) (iw iT_11) rfl rfl (tw W_417) kv0 eb24 dX11_again_28 ?_
        refine j_iload_n E dX11_again_31 1 rfl ?_
        obtain ⟨o25, h⟩ := h
        refine j_aald17 E kb24 (by rw [lb24]; exact o25) dX11_again_32 ?_
        obtain ⟨b26, eb26, kb26⟩ := sh_k hZ kb24 (by rw [lb24]; exact o25)
        have h := h b26 eb26
        refine j_rfS eb26 ?_
        refine j_astore_n E 2 [(2, .ref b26), (0, .ref v0), (1, .int v1)] dX11_again_33 rfl (by decide) rfl ?_
        refine j_aload_n E dX11_again_34 0 rfl ?_
        refine j_aload_n E dX11_again_35 1 rfl ?_
        obtain ⟨b27, eb27, kb27⟩ := sh_o hZ kv0 (j := 2) (k := 8) rfl
        have h := h b27 eb27
        refine j_getr E 11 2 rfl rfl (by decide) (by decide) (iw iT_11) rfl rfl (tw W_438) kv0 eb27 dX11_again_36 ?_
        refine j_callV E [.ref b27] [] (c_X2_getStairs (gL G) (gD G) (gY G) b26 b27 Z I L _ hZ kb26 kb27 h) (gwV W_662 W_663 W_664 W_649 W_661) rfl ⟨rfl, fy_X2_getStairs⟩ ⟨by decide, by decide⟩ (c := 2) rfl (by decide) kb26 rfl rfl (Nat.le_of_ble_eq_true rfl) ⟨Nat.zero_le _, Nat.zero_le _⟩ dX11_again_39 (fun v28 Z29 I30 L31 q32 => ?_)
        obtain ⟨rfl, rfl, h⟩ := q32
        show jJ G 5 42 [(2, .ref b26), (0, .ref v0), (1, .int v1)] [] Z I30 L31 0 0
        refine j_aload_n E dX11_again_42 0 rfl ?_
        obtain ⟨b33, eb33, kb33, lb33⟩ := sh_f hZ kb26 (j := 3) (k := 14) (m := 8) rfl
        have h := h b33 eb33
        refine j_getrN E 2 3 rfl rfl (by decide) (by decide) (iw iT_2) rfl rfl (nw_2_3_X11_416) kb26 eb33 dX11_again_43 ?_
        refine j_iconst E (v := 0) dX11_again_46 (by decide) ?_
        refine j_aload_n E dX11_again_47 1 rfl ?_
        obtain ⟨b34, eb34, kb34, lb34⟩ := sh_f hZ kv0 (j := 5) (k := 14) (m := 8) rfl
        have h := h b34 eb34
        refine j_getr E 11 5 rfl rfl (by decide) (by decide) (iw iT_11) rfl rfl (tw W_418) kv0 eb34 dX11_again_48 ?_
        refine j_iconst E (v := 0) dX11_again_51 (by decide) ?_
        refine j_bipush E (v := 8) dX11_again_52 (by decide) ?_
        obtain ⟨o35, h⟩ := h
        refine j_copyi E (tw W_576) (tw W_146) (tw W_147) (tw W_148) kb33 kb34 o35.1 o35.2.1 o35.2.2.1 (by rw [lb33]; exact o35.2.2.2.1) (by rw [lb34]; exact o35.2.2.2.2) (by decide) (Nat.le_of_ble_eq_true rfl) dX11_again_54 ?_
        refine j_nmI (fun I36 eI36 => ?_)
        have h := h I36 eI36
        refine j_iconst E (v := 0) dX11_again_57 (by decide) ?_
        refine j_istore_n E 3 [(3, .int (0 : Int32)), (2, .ref b26), (0, .ref v0), (1, .int v1)] dX11_again_58 rfl (by decide) rfl ?_
        obtain ⟨n37, h⟩ := h
        refine j_sub [2, 1, 0] rfl ?_
        exact m_X11_again_L59 E hZ  n37 v0 b26 (0 : Int32) I36 L31 kv0 kb26 h
      · have h := h.2 c23
        refine j_iconst E (v := 0) dX11_again_25 (by decide) ?_
        exact j_zreturn E (Or.inl rfl) ⟨rfl, _, rfl, (Or.inl rfl), h⟩ (Nat.zero_le _) (Nat.zero_le _) dX11_again_26
set_option maxRecDepth 100000 in
def f_X11_sumOfPurses_L4  (Z : jZ) (Q : Int32 → jI → jL → Prop) : Nat → Nat → Int32 → Int32 → jI → jL → Prop
  | 0 => fun _ _ _ _ _ => False
  | n + 1 => fun v0 v1 v2 I L => (((8 : Int32) ≤ v2 → Q v1 I L) ∧ (¬ ((8 : Int32) ≤ v2) → (∀ b2 : Nat, jr Z v0 5 = some b2 → (vp_in v2 8 ∧ (∀ x4 : Int32, x4 = (v1 + (I b2 v2.toNatClampNeg)) → (∀ x5 : Int32, x5 = v2 + 1 → (f_X11_sumOfPurses_L4 Z Q n) v0 x4 x5 I L))))))
set_option maxHeartbeats 4000000 in
set_option maxRecDepth 100000 in
theorem m_X11_sumOfPurses_L4 {G : jG} {Z : jZ} {Q : Int32 → jI → jL → Prop} (E : jE G cX11_sumOfPurses RX11 w_X11_sumOfPurses 3 (some .int) { frames := 0, cells := 0, slots := 0, locals := 0 } (rtI Z Q)) (hZ : SH Z)  : ∀ (n : Nat) (v0 : Nat) (v1 : Int32) (v2 : Int32) (I : jI) (L : jL), jk Z v0 11 → f_X11_sumOfPurses_L4  Z Q n v0 v1 v2 I L → jJ G 3 4 [(0, .ref v0), (1, .int v1), (2, .int v2)] [] Z I L 0 0 := by
  intro n
  induction n with
  | zero => intro v0 v1 v2 I L _ h; exact h.elim
  | succ n ih =>
    intro v0 v1 v2 I L kv0 h
    have h : (((8 : Int32) ≤ v2 → Q v1 I L) ∧ (¬ ((8 : Int32) ≤ v2) → (∀ b2 : Nat, jr Z v0 5 = some b2 → (vp_in v2 8 ∧ (∀ x4 : Int32, x4 = (v1 + (I b2 v2.toNatClampNeg)) → (∀ x5 : Int32, x5 = v2 + 1 → (f_X11_sumOfPurses_L4 Z Q n) v0 x4 x5 I L)))))) := h
    obtain ⟨K4, eK4⟩ : ∃ K : Nat → Int32 → Int32 → jI → jL → Prop, K = f_X11_sumOfPurses_L4  Z Q n := ⟨_, rfl⟩
    have hK4 := ih
    clear eK4 K4
    generalize f_X11_sumOfPurses_L4  Z Q n = K4 at hK4 h
    refine j_iload_n E dX11_sumOfPurses_4 2 rfl ?_
    refine j_bipush E (v := 8) dX11_sumOfPurses_5 (by decide) ?_
    refine j_icmp_ge E 25 dX11_sumOfPurses_7 (by decide) (fun c1 => ?_) (fun c1 => ?_)
    · have h := h.1 c1
      refine j_iload_n E dX11_sumOfPurses_25 1 rfl ?_
      exact j_ireturn E ⟨rfl, _, rfl, h⟩ (Nat.zero_le _) (Nat.zero_le _) dX11_sumOfPurses_26
    · have h := h.2 c1
      refine j_iload_n E dX11_sumOfPurses_10 1 rfl ?_
      refine j_aload_n E dX11_sumOfPurses_11 0 rfl ?_
      obtain ⟨b2, eb2, kb2, lb2⟩ := sh_f hZ kv0 (j := 5) (k := 14) (m := 8) rfl
      have h := h b2 eb2
      refine j_getr E 11 5 rfl rfl (by decide) (by decide) (iw iT_11) rfl rfl (tw W_418) kv0 eb2 dX11_sumOfPurses_12 ?_
      refine j_iload_n E dX11_sumOfPurses_15 2 rfl ?_
      obtain ⟨o3, h⟩ := h
      refine j_iald E kb2 (by rw [lb2]; exact o3) dX11_sumOfPurses_16 ?_
      refine j_iadd E dX11_sumOfPurses_17 ?_
      refine j_topi (fun x4 ex4 => ?_)
      have h := h x4 ex4
      refine j_istore_n E 1 [(1, .int x4), (0, .ref v0), (2, .int v2)] dX11_sumOfPurses_18 rfl (by decide) rfl ?_
      obtain ⟨x5, ex5⟩ : ∃ y : Int32, y = v2 + 1 := ⟨_, rfl⟩
      have h := h x5 ex5
      refine j_iinc E x5 [(2, .int x5), (1, .int x4), (0, .ref v0)] dX11_sumOfPurses_19 2 rfl (by rw [ex5]; rfl) (by decide) rfl ?_
      refine j_goto E 4 dX11_sumOfPurses_22 (by decide) ?_
      refine j_sub [2, 1, 0] rfl ?_
      exact hK4 v0 x4 x5 I L kv0 h
set_option maxRecDepth 100000 in
def f_X11_sumOfPurses (v0 : Nat) (Z : jZ) (I : jI) (L : jL) (Q : Int32 → jI → jL → Prop) : Prop := (∃ m4 : Nat, f_X11_sumOfPurses_L4  Z Q m4 v0 (0 : Int32) (0 : Int32) I L)
set_option maxHeartbeats 4000000 in
set_option maxRecDepth 100000 in
theorem c_X11_sumOfPurses (l : Launch) (D : va_G) (cy : jC) (v0 : Nat) (Z : jZ) (I : jI) (L : jL) (Q : Int32 → jI → jL → Prop) (hZ : SH Z) (kv0 : jk Z v0 11) (h : f_X11_sumOfPurses v0 Z I L Q) : jCt l yX11_sumOfPurses w_X11_sumOfPurses { frames := 0, cells := 0, slots := 0, locals := 0 } D cy [.ref v0] Z I L (rtI Z Q) := by
  refine jCt_of (cc := cX11_sumOfPurses) (maxL := 3) (ret := (some .int)) (by decide +kernel) rfl (Nat.le_of_ble_eq_true rfl) ?_
  intro G eD eY eL E
  subst eD; subst eY; subst eL
  have E : jE G cX11_sumOfPurses RX11 w_X11_sumOfPurses 3 (some .int) { frames := 0, cells := 0, slots := 0, locals := 0 } (rtI Z Q) := E
  show jJ G 3 0 [(0, .ref v0)] [] Z I L 0 0
  refine j_iconst E (v := 0) dX11_sumOfPurses_0 (by decide) ?_
  refine j_istore_n E 1 [(1, .int (0 : Int32)), (0, .ref v0)] dX11_sumOfPurses_1 rfl (by decide) rfl ?_
  refine j_iconst E (v := 0) dX11_sumOfPurses_2 (by decide) ?_
  refine j_istore_n E 2 [(2, .int (0 : Int32)), (1, .int (0 : Int32)), (0, .ref v0)] dX11_sumOfPurses_3 rfl (by decide) rfl ?_
  obtain ⟨n6, h⟩ := h
  refine j_sub [2, 1, 0] rfl ?_
  exact m_X11_sumOfPurses_L4 E hZ  n6 v0 (0 : Int32) (0 : Int32) I L kv0 h
set_option maxRecDepth 100000 in
def f_X11_count_b97  (Z : jZ) (Q : Int32 → jI → jL → Prop) (s0 : Int32) (s1 : Int32) (I : jI) (L : jL) : Prop := Q (s0 + s1) I L
set_option maxHeartbeats 4000000 in
set_option maxRecDepth 100000 in
theorem m_X11_count_b97 {G : jG} {Z : jZ} {Q : Int32 → jI → jL → Prop} (E : jE G cX11_count RX11 w_X11_count 2 (some .int) { frames := 2, cells := 0, slots := 0, locals := 42 } (rtI Z Q)) (hZ : SH Z)  (s0 : Int32) (s1 : Int32) (I : jI) (L : jL)  (h : f_X11_count_b97  Z Q s0 s1 I L) : jJ G 2 97 [] [.int s1, .int s0] Z I L 0 0 := by
  refine j_iadd E dX11_count_97 ?_
  exact j_ireturn E ⟨rfl, _, rfl, h⟩ (Nat.zero_le _) (Nat.zero_le _) dX11_count_98
set_option maxRecDepth 100000 in
def f_X11_count_b79  (Z : jZ) (Q : Int32 → jI → jL → Prop) (v0 : Nat) (s0 : Int32) (I : jI) (L : jL) : Prop := (∀ b1 : Nat, jr Z v0 2 = some b1 → (∀ b2 : Nat, jr Z b1 7 = some b2 → (f_X3_isTold b2 Z I L (fun r8 I5 L6 => ((r8 = 0 → f_X11_count_b97  Z Q s0 (0 : Int32) I5 L6) ∧ (¬ (r8 = 0) → f_X11_count_b97  Z Q s0 (2 : Int32) I5 L6))))))
set_option maxHeartbeats 4000000 in
set_option maxRecDepth 100000 in
theorem m_X11_count_b79 {G : jG} {Z : jZ} {Q : Int32 → jI → jL → Prop} (E : jE G cX11_count RX11 w_X11_count 2 (some .int) { frames := 2, cells := 0, slots := 0, locals := 42 } (rtI Z Q)) (hZ : SH Z)  (v0 : Nat) (s0 : Int32) (I : jI) (L : jL) (kv0 : jk Z v0 11) (h : f_X11_count_b79  Z Q v0 s0 I L) : jJ G 2 79 [(0, .ref v0)] [.int s0] Z I L 0 0 := by
  refine j_aload_n E dX11_count_79 0 rfl ?_
  obtain ⟨b1, eb1, kb1⟩ := sh_o hZ kv0 (j := 2) (k := 8) rfl
  have h := h b1 eb1
  refine j_getr E 11 2 rfl rfl (by decide) (by decide) (iw iT_11) rfl rfl (tw W_438) kv0 eb1 dX11_count_80 ?_
  obtain ⟨b2, eb2, kb2⟩ := sh_o hZ kb1 (j := 7) (k := 3) rfl
  have h := h b2 eb2
  refine j_getrN E 8 7 rfl rfl (by decide) (by decide) (iw iT_8) rfl rfl (nw_8_7_X11_135) kb1 eb2 dX11_count_83 ?_
  refine j_callV E [] [.int s0] (c_X3_isTold (gL G) (gD G) (gY G) b2 Z I L _ hZ kb2 h) (gwV W_665 W_175 W_176 W_173 W_172) rfl ⟨rfl, fy_X3_isTold⟩ ⟨by decide, by decide⟩ (c := 3) rfl (by decide) kb2 rfl rfl (Nat.le_of_ble_eq_true rfl) ⟨Nat.zero_le _, Nat.zero_le _⟩ dX11_count_86 (fun v3 Z4 I5 L6 q7 => ?_)
  obtain ⟨rfl, r8, rfl, zr8, h⟩ := q7
  show jJ G 2 89 [(0, .ref v0)] [.int r8, .int s0] Z I5 L6 0 0
  refine j_if_eq E 96 dX11_count_89 (by decide) (fun c9 => ?_) (fun c9 => ?_)
  · have h := h.1 c9
    refine j_iconst E (v := 0) dX11_count_96 (by decide) ?_
    refine j_sub [] rfl ?_
    exact m_X11_count_b97 E hZ  s0 (0 : Int32) I5 L6  h
  · have h := h.2 c9
    refine j_iconst E (v := 2) dX11_count_92 (by decide) ?_
    refine j_goto E 97 dX11_count_93 (by decide) ?_
    refine j_sub [] rfl ?_
    exact m_X11_count_b97 E hZ  s0 (2 : Int32) I5 L6  h
set_option maxRecDepth 100000 in
def f_X11_count (v0 : Nat) (v1 : Int32) (Z : jZ) (I : jI) (L : jL) (Q : Int32 → jI → jL → Prop) : Prop := ((v1 = 0 → (∀ b11 : Nat, jr Z v0 2 = some b11 → Q (I b11 9) I L)) ∧ (¬ v1 = 0 → ((v1 = 1 → Q (I v0 4) I L) ∧ (¬ v1 = 1 → ((v1 = 2 → (∀ b14 : Nat, jr Z v0 2 = some b14 → (∀ b15 : Nat, jr Z b14 6 = some b15 → (f_X3_isTold b15 Z I L (fun r21 I18 L19 => ((r21 = 0 → f_X11_count_b79  Z Q v0 (0 : Int32) I18 L19) ∧ (¬ (r21 = 0) → f_X11_count_b79  Z Q v0 (1 : Int32) I18 L19))))))) ∧ (¬ v1 = 2 → ((v1 = 3 → (∀ b24 : Nat, jr Z v0 2 = some b24 → (∀ b25 : Nat, jr Z b24 4 = some b25 → Q (I b25 4) I L))) ∧ (¬ v1 = 3 → ((v1 = 4 → (f_X11_sumOfPurses v0 Z I L (fun r32 I29 L30 => Q r32 I29 L30))) ∧ (¬ v1 = 4 → ((v1 = 5 → (∀ b34 : Nat, jr Z v0 2 = some b34 → (f_X8_sumOfFeuds b34 Z I L (fun r40 I37 L38 => Q r40 I37 L38)))) ∧ (¬ v1 = 5 → ((v1 = 6 → Q (I v0 16) I L) ∧ (¬ v1 = 6 → ((v1 = 7 → (∀ b43 : Nat, jr Z v0 0 = some b43 → Q (I b43 1) I L)) ∧ (¬ v1 = 7 → Q (-1 : Int32) I L))))))))))))))))
set_option maxHeartbeats 4000000 in
set_option maxRecDepth 100000 in
theorem c_X11_count (l : Launch) (D : va_G) (cy : jC) (v0 : Nat) (v1 : Int32) (Z : jZ) (I : jI) (L : jL) (Q : Int32 → jI → jL → Prop) (hZ : SH Z) (kv0 : jk Z v0 11) (h : f_X11_count v0 v1 Z I L Q) : jCt l yX11_count w_X11_count { frames := 2, cells := 0, slots := 0, locals := 42 } D cy [.ref v0, .int v1] Z I L (rtI Z Q) := by
  refine jCt_of (cc := cX11_count) (maxL := 2) (ret := (some .int)) (by decide +kernel) rfl (Nat.le_of_ble_eq_true rfl) ?_
  intro G eD eY eL E
  subst eD; subst eY; subst eL
  have E : jE G cX11_count RX11 w_X11_count 2 (some .int) { frames := 2, cells := 0, slots := 0, locals := 42 } (rtI Z Q) := E
  show jJ G 2 0 [(0, .ref v0), (1, .int v1)] [] Z I L 0 0
  refine j_iload_n E dX11_count_0 1 rfl ?_
  by_cases c10 : v1 = 0
  · have h := h.1 c10
    refine j_tableIn E (47) 48 dX11_count_1 (by rw [c10]; decide) (by rw [c10]; decide) (by rw [c10]; rfl) (by decide) ?_
    refine j_aload_n E dX11_count_48 0 rfl ?_
    obtain ⟨b11, eb11, kb11⟩ := sh_o hZ kv0 (j := 2) (k := 8) rfl
    have h := h b11 eb11
    refine j_getr E 11 2 rfl rfl (by decide) (by decide) (iw iT_11) rfl rfl (tw W_438) kv0 eb11 dX11_count_49 ?_
    refine j_getiN E 8 9 rfl rfl (by decide) (by decide) (iw iT_8) rfl rfl (nw_8_9_X11_172) kb11 dX11_count_52 ?_
    exact j_ireturn E ⟨rfl, _, rfl, h⟩ (Nat.zero_le _) (Nat.zero_le _) dX11_count_55
  · have h := h.2 c10
    by_cases c12 : v1 = 1
    · have h := h.1 c12
      refine j_tableIn E (55) 56 dX11_count_1 (by rw [c12]; decide) (by rw [c12]; decide) (by rw [c12]; rfl) (by decide) ?_
      refine j_aload_n E dX11_count_56 0 rfl ?_
      refine j_geti E 11 4 rfl rfl (by decide) (by decide) (iw iT_11) rfl rfl (tw W_415) kv0 dX11_count_57 ?_
      exact j_ireturn E ⟨rfl, _, rfl, h⟩ (Nat.zero_le _) (Nat.zero_le _) dX11_count_60
    · have h := h.2 c12
      by_cases c13 : v1 = 2
      · have h := h.1 c13
        refine j_tableIn E (60) 61 dX11_count_1 (by rw [c13]; decide) (by rw [c13]; decide) (by rw [c13]; rfl) (by decide) ?_
        refine j_aload_n E dX11_count_61 0 rfl ?_
        obtain ⟨b14, eb14, kb14⟩ := sh_o hZ kv0 (j := 2) (k := 8) rfl
        have h := h b14 eb14
        refine j_getr E 11 2 rfl rfl (by decide) (by decide) (iw iT_11) rfl rfl (tw W_438) kv0 eb14 dX11_count_62 ?_
        obtain ⟨b15, eb15, kb15⟩ := sh_o hZ kb14 (j := 6) (k := 3) rfl
        have h := h b15 eb15
        refine j_getrN E 8 6 rfl rfl (by decide) (by decide) (iw iT_8) rfl rfl (nw_8_6_X11_128) kb14 eb15 dX11_count_65 ?_
        refine j_callV E [] [] (c_X3_isTold (gL G) (gD G) (gY G) b15 Z I L _ hZ kb15 h) (gwV W_665 W_175 W_176 W_173 W_172) rfl ⟨rfl, fy_X3_isTold⟩ ⟨by decide, by decide⟩ (c := 3) rfl (by decide) kb15 rfl rfl (Nat.le_of_ble_eq_true rfl) ⟨Nat.zero_le _, Nat.zero_le _⟩ dX11_count_68 (fun v16 Z17 I18 L19 q20 => ?_)
        obtain ⟨rfl, r21, rfl, zr21, h⟩ := q20
        show jJ G 2 71 [(0, .ref v0), (1, .int v1)] [.int r21] Z I18 L19 0 0
        refine j_if_eq E 78 dX11_count_71 (by decide) (fun c22 => ?_) (fun c22 => ?_)
        · have h := h.1 c22
          refine j_iconst E (v := 0) dX11_count_78 (by decide) ?_
          refine j_sub [0] rfl ?_
          exact m_X11_count_b79 E hZ  v0 (0 : Int32) I18 L19 kv0 h
        · have h := h.2 c22
          refine j_iconst E (v := 1) dX11_count_74 (by decide) ?_
          refine j_goto E 79 dX11_count_75 (by decide) ?_
          refine j_sub [0] rfl ?_
          exact m_X11_count_b79 E hZ  v0 (1 : Int32) I18 L19 kv0 h
      · have h := h.2 c13
        by_cases c23 : v1 = 3
        · have h := h.1 c23
          refine j_tableIn E (98) 99 dX11_count_1 (by rw [c23]; decide) (by rw [c23]; decide) (by rw [c23]; rfl) (by decide) ?_
          refine j_aload_n E dX11_count_99 0 rfl ?_
          obtain ⟨b24, eb24, kb24⟩ := sh_o hZ kv0 (j := 2) (k := 8) rfl
          have h := h b24 eb24
          refine j_getr E 11 2 rfl rfl (by decide) (by decide) (iw iT_11) rfl rfl (tw W_438) kv0 eb24 dX11_count_100 ?_
          obtain ⟨b25, eb25, kb25⟩ := sh_o hZ kb24 (j := 4) (k := 4) rfl
          have h := h b25 eb25
          refine j_getrN E 8 4 rfl rfl (by decide) (by decide) (iw iT_8) rfl rfl (nw_8_4_X11_160) kb24 eb25 dX11_count_103 ?_
          refine j_getiN E 4 4 rfl rfl (by decide) (by decide) (iw iT_4) rfl rfl (nw_4_4_X11_369) kb25 dX11_count_106 ?_
          exact j_ireturn E ⟨rfl, _, rfl, h⟩ (Nat.zero_le _) (Nat.zero_le _) dX11_count_109
        · have h := h.2 c23
          by_cases c26 : v1 = 4
          · have h := h.1 c26
            refine j_tableIn E (109) 110 dX11_count_1 (by rw [c26]; decide) (by rw [c26]; decide) (by rw [c26]; rfl) (by decide) ?_
            refine j_aload_n E dX11_count_110 0 rfl ?_
            refine j_callV E [] [] (c_X11_sumOfPurses (gL G) (gD G) (gY G) v0 Z I L _ hZ kv0 h) (gwV W_667 W_668 W_669 W_28 W_666) rfl ⟨rfl, fy_X11_sumOfPurses⟩ ⟨by decide, by decide⟩ (c := 11) rfl (by decide) kv0 rfl rfl (Nat.le_of_ble_eq_true rfl) ⟨Nat.zero_le _, Nat.zero_le _⟩ dX11_count_111 (fun v27 Z28 I29 L30 q31 => ?_)
            obtain ⟨rfl, r32, rfl, h⟩ := q31
            show jJ G 2 114 [(0, .ref v0), (1, .int v1)] [.int r32] Z I29 L30 0 0
            exact j_ireturn E ⟨rfl, _, rfl, h⟩ (Nat.zero_le _) (Nat.zero_le _) dX11_count_114
          · have h := h.2 c26
            by_cases c33 : v1 = 5
            · have h := h.1 c33
              refine j_tableIn E (114) 115 dX11_count_1 (by rw [c33]; decide) (by rw [c33]; decide) (by rw [c33]; rfl) (by decide) ?_
              refine j_aload_n E dX11_count_115 0 rfl ?_
              obtain ⟨b34, eb34, kb34⟩ := sh_o hZ kv0 (j := 2) (k := 8) rfl
              have h := h b34 eb34
              refine j_getr E 11 2 rfl rfl (by decide) (by decide) (iw iT_11) rfl rfl (tw W_438) kv0 eb34 dX11_count_116 ?_
              refine j_callV E [] [] (c_X8_sumOfFeuds (gL G) (gD G) (gY G) b34 Z I L _ hZ kb34 h) (gwV W_671 W_672 W_673 W_248 W_670) rfl ⟨rfl, fy_X8_sumOfFeuds⟩ ⟨by decide, by decide⟩ (c := 8) rfl (by decide) kb34 rfl rfl (Nat.le_of_ble_eq_true rfl) ⟨Nat.zero_le _, Nat.zero_le _⟩ dX11_count_119 (fun v35 Z36 I37 L38 q39 => ?_)
              obtain ⟨rfl, r40, rfl, h⟩ := q39
              show jJ G 2 122 [(0, .ref v0), (1, .int v1)] [.int r40] Z I37 L38 0 0
              exact j_ireturn E ⟨rfl, _, rfl, h⟩ (Nat.zero_le _) (Nat.zero_le _) dX11_count_122
            · have h := h.2 c33
              by_cases c41 : v1 = 6
              · have h := h.1 c41
                refine j_tableIn E (122) 123 dX11_count_1 (by rw [c41]; decide) (by rw [c41]; decide) (by rw [c41]; rfl) (by decide) ?_
                refine j_aload_n E dX11_count_123 0 rfl ?_
                refine j_geti E 11 16 rfl rfl (by decide) (by decide) (iw iT_11) rfl rfl (tw W_465) kv0 dX11_count_124 ?_
                exact j_ireturn E ⟨rfl, _, rfl, h⟩ (Nat.zero_le _) (Nat.zero_le _) dX11_count_127
              · have h := h.2 c41
                by_cases c42 : v1 = 7
                · have h := h.1 c42
                  refine j_tableIn E (127) 128 dX11_count_1 (by rw [c42]; decide) (by rw [c42]; decide) (by rw [c42]; rfl) (by decide) ?_
                  refine j_aload_n E dX11_count_128 0 rfl ?_
                  obtain ⟨b43, eb43, kb43⟩ := sh_o hZ kv0 (j := 0) (k := 10) rfl
                  have h := h b43 eb43
                  refine j_getr E 11 0 rfl rfl (by decide) (by decide) (iw iT_11) rfl rfl (tw W_406) kv0 eb43 dX11_count_129 ?_
                  refine j_getiN E 10 1 rfl rfl (by decide) (by decide) (iw iT_10) rfl rfl (nw_10_1_X11_94) kb43 dX11_count_132 ?_
                  exact j_ireturn E ⟨rfl, _, rfl, h⟩ (Nat.zero_le _) (Nat.zero_le _) dX11_count_135
                · have h := h.2 c42
                  refine j_tableOut E 136 dX11_count_1 (by have tc10 := lv_neT (k := 0) (a := 0) c10 rfl; have tc12 := lv_neT (k := 1) (a := 1) c12 rfl; have tc13 := lv_neT (k := 2) (a := 2) c13 rfl; have tc23 := lv_neT (k := 3) (a := 3) c23 rfl; have tc26 := lv_neT (k := 4) (a := 4) c26 rfl; have tc33 := lv_neT (k := 5) (a := 5) c33 rfl; have tc41 := lv_neT (k := 6) (a := 6) c41 rfl; have tc42 := lv_neT (k := 7) (a := 7) c42 rfl; omega) (by decide) ?_
                  refine j_iconst E (v := -1) dX11_count_136 (by decide) ?_
                  exact j_ireturn E ⟨rfl, _, rfl, h⟩ (Nat.zero_le _) (Nat.zero_le _) dX11_count_137
set_option maxRecDepth 100000 in
def f_X11_row (v0 : Nat) (v1 : Int32) (Z : jZ) (I : jI) (L : jL) (Q : Int64 → jI → jL → Prop) (QX : jI → jL → Prop) : Prop := ((v1 < 0 → QX I L) ∧ (¬ (v1 < 0) → (((I v0 16) ≤ v1 → QX I L) ∧ (¬ ((I v0 16) ≤ v1) → (∀ b3 : Nat, jr Z v0 15 = some b3 → ((v1 < (26 : Int32) → (∀ b5 : Nat, jr Z v0 15 = some b5 → (vp_in v1 26 ∧ Q (L b5 v1.toNatClampNeg) I L))) ∧ (¬ (v1 < (26 : Int32)) → QX I L)))))))
set_option maxHeartbeats 4000000 in
set_option maxRecDepth 100000 in
theorem c_X11_row (l : Launch) (hl0 : l.stackTraces = false) (D : va_G) (cy : jC) (v0 : Nat) (v1 : Int32) (Z : jZ) (I : jI) (L : jL) (Q : Int64 → jI → jL → Prop) (QX : jI → jL → Prop) (hZ : SH Z) (kv0 : jk Z v0 11) (h : f_X11_row v0 v1 Z I L Q QX) : jCtX l yX11_row w_X11_row { frames := 6, cells := 1, slots := 6, locals := 90 } D cy [.ref v0, .int v1] Z I L (rtL Z Q) (fun Z9 I9 L9 => Z = Z9 ∧ QX I9 L9) := by
  refine jCtX_of hl0 (cc := cX11_row) (maxL := 2) (ret := (some .long)) (by decide +kernel) rfl (Nat.le_of_ble_eq_true rfl) ?_
  intro G eD eY eL E EX
  subst eD; subst eY; subst eL
  have E : jE G cX11_row RX11 w_X11_row 2 (some .long) { frames := 6, cells := 1, slots := 6, locals := 90 } (rtL Z Q) := E
  show jJ G 2 0 [(0, .ref v0), (1, .int v1)] [] Z I L 0 0
  refine j_iload_n E dX11_row_0 1 rfl ?_
  refine j_if_lt E 21 dX11_row_1 (by decide) (fun c1 => ?_) (fun c1 => ?_)
  · have h := h.1 c1
    exact j_throw E EX (w := 7) (is := 439) (text := "no such number") (by decide) W_449 W_450 ⟨by decide, by decide⟩ rfl (by decide) (by decide) ⟨rfl, h⟩ dX11_row_21 dX11_row_24 (Or.inr ⟨dX11_row_25, rfl⟩) dX11_row_28 dX11_row_31
  · have h := h.2 c1
    refine j_iload_n E dX11_row_4 1 rfl ?_
    refine j_aload_n E dX11_row_5 0 rfl ?_
    refine j_geti E 11 16 rfl rfl (by decide) (by decide) (iw iT_11) rfl rfl (tw W_465) kv0 dX11_row_6 ?_
    refine j_icmp_ge E 21 dX11_row_9 (by decide) (fun c2 => ?_) (fun c2 => ?_)
    · have h := h.1 c2
      exact j_throw E EX (w := 7) (is := 439) (text := "no such number") (by decide) W_449 W_450 ⟨by decide, by decide⟩ rfl (by decide) (by decide) ⟨rfl, h⟩ dX11_row_21 dX11_row_24 (Or.inr ⟨dX11_row_25, rfl⟩) dX11_row_28 dX11_row_31
    · have h := h.2 c2
      refine j_iload_n E dX11_row_12 1 rfl ?_
      refine j_aload_n E dX11_row_13 0 rfl ?_
      obtain ⟨b3, eb3, kb3, lb3⟩ := sh_f hZ kv0 (j := 15) (k := 15) (m := 26) rfl
      have h := h b3 eb3
      refine j_getr E 11 15 rfl rfl (by decide) (by decide) (iw iT_11) rfl rfl (tw W_466) kv0 eb3 dX11_row_14 ?_
      refine j_alen15 E (v := 26) kb3 (by rw [lb3]; rfl) dX11_row_17 ?_
      refine j_icmp_lt E 32 dX11_row_18 (by decide) (fun c4 => ?_) (fun c4 => ?_)
      · have h := h.1 c4
        refine j_aload_n E dX11_row_32 0 rfl ?_
        obtain ⟨b5, eb5, kb5, lb5⟩ := sh_f hZ kv0 (j := 15) (k := 15) (m := 26) rfl
        have h := h b5 eb5
        refine j_getr E 11 15 rfl rfl (by decide) (by decide) (iw iT_11) rfl rfl (tw W_466) kv0 eb5 dX11_row_33 ?_
        refine j_iload_n E dX11_row_36 1 rfl ?_
        obtain ⟨o6, h⟩ := h
        refine j_lald E kb5 (by rw [lb5]; exact o6) dX11_row_37 ?_
        exact j_lreturn E ⟨rfl, _, rfl, h⟩ (Nat.zero_le _) (Nat.zero_le _) dX11_row_38
      · have h := h.2 c4
        exact j_throw E EX (w := 7) (is := 439) (text := "no such number") (by decide) W_449 W_450 ⟨by decide, by decide⟩ rfl (by decide) (by decide) ⟨rfl, h⟩ dX11_row_21 dX11_row_24 (Or.inr ⟨dX11_row_25, rfl⟩) dX11_row_28 dX11_row_31
set_option maxRecDepth 100000 in
def f_X12_thrown (v0 : Nat) (Z : jZ) (I : jI) (L : jL) (Q : Int32 → jI → jL → Prop) : Prop := Q (I v0 22) I L
set_option maxHeartbeats 4000000 in
set_option maxRecDepth 100000 in
theorem c_X12_thrown (l : Launch) (D : va_G) (cy : jC) (v0 : Nat) (Z : jZ) (I : jI) (L : jL) (Q : Int32 → jI → jL → Prop) (hZ : SH Z) (kv0 : jk Z v0 12) (h : f_X12_thrown v0 Z I L Q) : jCt l yX12_thrown w_X12_thrown { frames := 0, cells := 0, slots := 0, locals := 0 } D cy [.ref v0] Z I L (rtI Z Q) := by
  refine jCt_of (cc := cX12_thrown) (maxL := 1) (ret := (some .int)) (by decide +kernel) rfl (Nat.le_of_ble_eq_true rfl) ?_
  intro G eD eY eL E
  subst eD; subst eY; subst eL
  have E : jE G cX12_thrown RX12 w_X12_thrown 1 (some .int) { frames := 0, cells := 0, slots := 0, locals := 0 } (rtI Z Q) := E
  show jJ G 1 0 [(0, .ref v0)] [] Z I L 0 0
  refine j_aload_n E dX12_thrown_0 0 rfl ?_
  refine j_geti E 12 22 rfl rfl (by decide) (by decide) (iw iT_12) rfl rfl (tw W_674) kv0 dX12_thrown_1 ?_
  exact j_ireturn E ⟨rfl, _, rfl, h⟩ (Nat.zero_le _) (Nat.zero_le _) dX12_thrown_4
set_option maxRecDepth 100000 in
def f_X12_in (v0 : Int32) (v1 : Int32) (v2 : Int32) (Z : jZ) (I : jI) (L : jL) (Q : Int32 → jI → jL → Prop) : Prop := ((v0 < v1 → Q (0 : Int32) I L) ∧ (¬ (v0 < v1) → ((v2 < v0 → Q (0 : Int32) I L) ∧ (¬ (v2 < v0) → Q (1 : Int32) I L))))
set_option maxHeartbeats 4000000 in
set_option maxRecDepth 100000 in
theorem c_X12_in (l : Launch) (D : va_G) (cy : jC) (v0 : Int32) (v1 : Int32) (v2 : Int32) (Z : jZ) (I : jI) (L : jL) (Q : Int32 → jI → jL → Prop) (hZ : SH Z)  (h : f_X12_in v0 v1 v2 Z I L Q) : jCt l yX12_in w_X12_in { frames := 0, cells := 0, slots := 0, locals := 0 } D cy [.int v0, .int v1, .int v2] Z I L (rtZ Z Q) := by
  refine jCt_of (cc := cX12_in) (maxL := 3) (ret := (some .boolean)) (by decide +kernel) rfl (Nat.le_of_ble_eq_true rfl) ?_
  intro G eD eY eL E
  subst eD; subst eY; subst eL
  have E : jE G cX12_in RX12 w_X12_in 3 (some .boolean) { frames := 0, cells := 0, slots := 0, locals := 0 } (rtZ Z Q) := E
  show jJ G 3 0 [(0, .int v0), (1, .int v1), (2, .int v2)] [] Z I L 0 0
  refine j_iload_n E dX12_in_0 0 rfl ?_
  refine j_iload_n E dX12_in_1 1 rfl ?_
  refine j_icmp_lt E 14 dX12_in_2 (by decide) (fun c1 => ?_) (fun c1 => ?_)
  · have h := h.1 c1
    refine j_iconst E (v := 0) dX12_in_14 (by decide) ?_
    exact j_zreturn E (Or.inl rfl) ⟨rfl, _, rfl, (Or.inl rfl), h⟩ (Nat.zero_le _) (Nat.zero_le _) dX12_in_15
  · have h := h.2 c1
    refine j_iload_n E dX12_in_5 0 rfl ?_
    refine j_iload_n E dX12_in_6 2 rfl ?_
    refine j_icmp_gt E 14 dX12_in_7 (by decide) (fun c2 => ?_) (fun c2 => ?_)
    · have h := h.1 c2
      refine j_iconst E (v := 0) dX12_in_14 (by decide) ?_
      exact j_zreturn E (Or.inl rfl) ⟨rfl, _, rfl, (Or.inl rfl), h⟩ (Nat.zero_le _) (Nat.zero_le _) dX12_in_15
    · have h := h.2 c2
      refine j_iconst E (v := 1) dX12_in_10 (by decide) ?_
      refine j_goto E 15 dX12_in_11 (by decide) ?_
      exact j_zreturn E (Or.inr rfl) ⟨rfl, _, rfl, (Or.inr rfl), h⟩ (Nat.zero_le _) (Nat.zero_le _) dX12_in_15
set_option maxRecDepth 100000 in
def f_X12_has (v0 : Int32) (v1 : Int32) (Z : jZ) (I : jI) (L : jL) (Q : Int32 → jI → jL → Prop) : Prop := ((¬ ((v0 >>> (v1 &&& 31)) &&& (1 : Int32)) = (1 : Int32) → Q (0 : Int32) I L) ∧ (((v0 >>> (v1 &&& 31)) &&& (1 : Int32)) = (1 : Int32) → Q (1 : Int32) I L))
set_option maxHeartbeats 4000000 in
set_option maxRecDepth 100000 in
theorem c_X12_has (l : Launch) (D : va_G) (cy : jC) (v0 : Int32) (v1 : Int32) (Z : jZ) (I : jI) (L : jL) (Q : Int32 → jI → jL → Prop) (hZ : SH Z)  (h : f_X12_has v0 v1 Z I L Q) : jCt l yX12_has w_X12_has { frames := 0, cells := 0, slots := 0, locals := 0 } D cy [.int v0, .int v1] Z I L (rtZ Z Q) := by
  refine jCt_of (cc := cX12_has) (maxL := 2) (ret := (some .boolean)) (by decide +kernel) rfl (Nat.le_of_ble_eq_true rfl) ?_
  intro G eD eY eL E
  subst eD; subst eY; subst eL
  have E : jE G cX12_has RX12 w_X12_has 2 (some .boolean) { frames := 0, cells := 0, slots := 0, locals := 0 } (rtZ Z Q) := E
  show jJ G 2 0 [(0, .int v0), (1, .int v1)] [] Z I L 0 0
  refine j_iload_n E dX12_has_0 0 rfl ?_
  refine j_iload_n E dX12_has_1 1 rfl ?_
  refine j_ishr E dX12_has_2 ?_
  refine j_iconst E (v := 1) dX12_has_3 (by decide) ?_
  refine j_iand E dX12_has_4 ?_
  refine j_iconst E (v := 1) dX12_has_5 (by decide) ?_
  refine j_icmp_ne E 13 dX12_has_6 (by decide) (fun c1 => ?_) (fun c1 => ?_)
  · have h := h.1 c1
    refine j_iconst E (v := 0) dX12_has_13 (by decide) ?_
    exact j_zreturn E (Or.inl rfl) ⟨rfl, _, rfl, (Or.inl rfl), h⟩ (Nat.zero_le _) (Nat.zero_le _) dX12_has_14
  · have h := h.2 c1
    refine j_iconst E (v := 1) dX12_has_9 (by decide) ?_
    refine j_goto E 14 dX12_has_10 (by decide) ?_
    exact j_zreturn E (Or.inr rfl) ⟨rfl, _, rfl, (Or.inr rfl), h⟩ (Nat.zero_le _) (Nat.zero_le _) dX12_has_14
set_option maxRecDepth 100000 in
def f_X12_lost (v0 : Nat) (Z : jZ) (I : jI) (L : jL) (Q : Int32 → jI → jL → Prop) : Prop := (∀ I1 : jI, I1 = jpI I v0 22 (1 : Int32) → Q (0 : Int32) I1 L)
set_option maxHeartbeats 4000000 in
set_option maxRecDepth 100000 in
theorem c_X12_lost (l : Launch) (D : va_G) (cy : jC) (v0 : Nat) (Z : jZ) (I : jI) (L : jL) (Q : Int32 → jI → jL → Prop) (hZ : SH Z) (kv0 : jk Z v0 12) (h : f_X12_lost v0 Z I L Q) : jCt l yX12_lost w_X12_lost { frames := 0, cells := 0, slots := 0, locals := 0 } D cy [.ref v0] Z I L (rtI Z Q) := by
  refine jCt_of (cc := cX12_lost) (maxL := 1) (ret := (some .int)) (by decide +kernel) rfl (Nat.le_of_ble_eq_true rfl) ?_
  intro G eD eY eL E
  subst eD; subst eY; subst eL
  have E : jE G cX12_lost RX12 w_X12_lost 1 (some .int) { frames := 0, cells := 0, slots := 0, locals := 0 } (rtI Z Q) := E
  show jJ G 1 0 [(0, .ref v0)] [] Z I L 0 0
  refine j_aload_n E dX12_lost_0 0 rfl ?_
  refine j_iconst E (v := 1) dX12_lost_1 (by decide) ?_
  refine j_puti E 12 22 rfl rfl (by decide) (by decide) (iw iT_12) tyX12_ok nmX12 rfl rfl (tw W_674) rfl rfl rfl kv0 dX12_lost_2 ?_
  refine j_nmI (fun I1 eI1 => ?_)
  have h := h I1 eI1
  refine j_iconst E (v := 0) dX12_lost_5 (by decide) ?_
  exact j_ireturn E ⟨rfl, _, rfl, h⟩ (Nat.zero_le _) (Nat.zero_le _) dX12_lost_6
set_option maxRecDepth 100000 in
def f_X12_tell (v0 : Nat) (v1 : Int64) (Z : jZ) (I : jI) (L : jL) (Q : jI → jL → Prop) : Prop := (∀ b1 : Nat, jr Z v0 20 = some b1 → (vp_in (I v0 21) 40 ∧ (∀ L3 : jL, L3 = jpL L b1 (I v0 21).toNatClampNeg v1 → (∀ I4 : jI, I4 = jpI I v0 21 ((I v0 21) + (1 : Int32)) → Q I4 L3))))
set_option maxHeartbeats 4000000 in
set_option maxRecDepth 100000 in
theorem c_X12_tell (l : Launch) (D : va_G) (cy : jC) (v0 : Nat) (v1 : Int64) (Z : jZ) (I : jI) (L : jL) (Q : jI → jL → Prop) (hZ : SH Z) (kv0 : jk Z v0 12) (h : f_X12_tell v0 v1 Z I L Q) : jCt l yX12_tell w_X12_tell { frames := 0, cells := 0, slots := 0, locals := 0 } D cy [.ref v0, .long v1] Z I L (rtV Z Q) := by
  refine jCt_of (cc := cX12_tell) (maxL := 3) (ret := none) (by decide +kernel) rfl (Nat.le_of_ble_eq_true rfl) ?_
  intro G eD eY eL E
  subst eD; subst eY; subst eL
  have E : jE G cX12_tell RX12 w_X12_tell 3 none { frames := 0, cells := 0, slots := 0, locals := 0 } (rtV Z Q) := E
  show jJ G 3 0 [(0, .ref v0), (1, .long v1)] [] Z I L 0 0
  refine j_aload_n E dX12_tell_0 0 rfl ?_
  obtain ⟨b1, eb1, kb1, lb1⟩ := sh_f hZ kv0 (j := 20) (k := 15) (m := 40) rfl
  have h := h b1 eb1
  refine j_getr E 12 20 rfl rfl (by decide) (by decide) (iw iT_12) rfl rfl (tw W_675) kv0 eb1 dX12_tell_1 ?_
  refine j_aload_n E dX12_tell_4 0 rfl ?_
  refine j_geti E 12 21 rfl rfl (by decide) (by decide) (iw iT_12) rfl rfl (tw W_676) kv0 dX12_tell_5 ?_
  refine j_lload_n E dX12_tell_8 1 rfl ?_
  obtain ⟨o2, h⟩ := h
  refine j_last E kb1 (by rw [lb1]; exact o2) dX12_tell_9 ?_
  refine j_nmL (fun L3 eL3 => ?_)
  have h := h L3 eL3
  refine j_aload_n E dX12_tell_10 0 rfl ?_
  refine j_dup E dX12_tell_11 rfl ?_
  refine j_geti E 12 21 rfl rfl (by decide) (by decide) (iw iT_12) rfl rfl (tw W_676) kv0 dX12_tell_12 ?_
  refine j_iconst E (v := 1) dX12_tell_15 (by decide) ?_
  refine j_iadd E dX12_tell_16 ?_
  refine j_puti E 12 21 rfl rfl (by decide) (by decide) (iw iT_12) tyX12_ok nmX12 rfl rfl (tw W_676) rfl rfl rfl kv0 dX12_tell_17 ?_
  refine j_nmI (fun I4 eI4 => ?_)
  have h := h I4 eI4
  exact j_return E ⟨rfl, rfl, h⟩ (Nat.zero_le _) (Nat.zero_le _) dX12_tell_20
set_option maxRecDepth 100000 in
def f_X12_isStep (v0 : Nat) (v1 : Int32) (Z : jZ) (I : jI) (L : jL) (Q : Int32 → jI → jL → Prop) : Prop := (f_X12_in v1 (0 : Int32) ((I v0 0) - (1 : Int32)) Z I L (fun r6 I3 L4 => Q r6 I3 L4))
set_option maxHeartbeats 4000000 in
set_option maxRecDepth 100000 in
theorem c_X12_isStep (l : Launch) (D : va_G) (cy : jC) (v0 : Nat) (v1 : Int32) (Z : jZ) (I : jI) (L : jL) (Q : Int32 → jI → jL → Prop) (hZ : SH Z) (kv0 : jk Z v0 12) (h : f_X12_isStep v0 v1 Z I L Q) : jCt l yX12_isStep w_X12_isStep { frames := 1, cells := 0, slots := 0, locals := 22 } D cy [.ref v0, .int v1] Z I L (rtZ Z Q) := by
  refine jCt_of (cc := cX12_isStep) (maxL := 2) (ret := (some .boolean)) (by decide +kernel) rfl (Nat.le_of_ble_eq_true rfl) ?_
  intro G eD eY eL E
  subst eD; subst eY; subst eL
  have E : jE G cX12_isStep RX12 w_X12_isStep 2 (some .boolean) { frames := 1, cells := 0, slots := 0, locals := 22 } (rtZ Z Q) := E
  show jJ G 2 0 [(0, .ref v0), (1, .int v1)] [] Z I L 0 0
  refine j_iload_n E dX12_isStep_0 1 rfl ?_
  refine j_iconst E (v := 0) dX12_isStep_1 (by decide) ?_
  refine j_aload_n E dX12_isStep_2 0 rfl ?_
  refine j_geti E 12 0 rfl rfl (by decide) (by decide) (iw iT_12) rfl rfl (tw W_677) kv0 dX12_isStep_3 ?_
  refine j_iconst E (v := 1) dX12_isStep_6 (by decide) ?_
  refine j_isub E dX12_isStep_7 ?_
  refine j_callS E [.int v1, .int (0 : Int32), .int ((I v0 0) - (1 : Int32))] [] (c_X12_in (gL G) (gD G) (gY G) v1 (0 : Int32) ((I v0 0) - (1 : Int32)) Z I L _ hZ  h) (gwS W_680 W_681 W_679 W_678) rfl fy_X12_in ⟨by decide, by decide⟩ rfl rfl (Nat.le_of_ble_eq_true rfl) ⟨Nat.zero_le _, Nat.zero_le _⟩ dX12_isStep_8 (fun v1 Z2 I3 L4 q5 => ?_)
  obtain ⟨rfl, r6, rfl, zr6, h⟩ := q5
  show jJ G 2 11 [(0, .ref v0), (1, .int v1)] [.int r6] Z I3 L4 0 0
  exact j_zreturn E zr6 ⟨rfl, _, rfl, zr6, h⟩ (Nat.zero_le _) (Nat.zero_le _) dX12_isStep_11
set_option maxRecDepth 100000 in
def f_X12_isFamily (v0 : Int32) (Z : jZ) (I : jI) (L : jL) (Q : Int32 → jI → jL → Prop) : Prop := (f_X12_in v0 (0 : Int32) (7 : Int32) Z I L (fun r6 I3 L4 => Q r6 I3 L4))
set_option maxHeartbeats 4000000 in
set_option maxRecDepth 100000 in
theorem c_X12_isFamily (l : Launch) (D : va_G) (cy : jC) (v0 : Int32) (Z : jZ) (I : jI) (L : jL) (Q : Int32 → jI → jL → Prop) (hZ : SH Z)  (h : f_X12_isFamily v0 Z I L Q) : jCt l yX12_isFamily w_X12_isFamily { frames := 1, cells := 0, slots := 0, locals := 22 } D cy [.int v0] Z I L (rtZ Z Q) := by
  refine jCt_of (cc := cX12_isFamily) (maxL := 1) (ret := (some .boolean)) (by decide +kernel) rfl (Nat.le_of_ble_eq_true rfl) ?_
  intro G eD eY eL E
  subst eD; subst eY; subst eL
  have E : jE G cX12_isFamily RX12 w_X12_isFamily 1 (some .boolean) { frames := 1, cells := 0, slots := 0, locals := 22 } (rtZ Z Q) := E
  show jJ G 1 0 [(0, .int v0)] [] Z I L 0 0
  refine j_iload_n E dX12_isFamily_0 0 rfl ?_
  refine j_iconst E (v := 0) dX12_isFamily_1 (by decide) ?_
  refine j_bipush E (v := 7) dX12_isFamily_2 (by decide) ?_
  refine j_callS E [.int v0, .int (0 : Int32), .int (7 : Int32)] [] (c_X12_in (gL G) (gD G) (gY G) v0 (0 : Int32) (7 : Int32) Z I L _ hZ  h) (gwS W_680 W_681 W_679 W_678) rfl fy_X12_in ⟨by decide, by decide⟩ rfl rfl (Nat.le_of_ble_eq_true rfl) ⟨Nat.zero_le _, Nat.zero_le _⟩ dX12_isFamily_4 (fun v1 Z2 I3 L4 q5 => ?_)
  obtain ⟨rfl, r6, rfl, zr6, h⟩ := q5
  show jJ G 1 7 [(0, .int v0)] [.int r6] Z I3 L4 0 0
  exact j_zreturn E zr6 ⟨rfl, _, rfl, zr6, h⟩ (Nat.zero_le _) (Nat.zero_le _) dX12_isFamily_7
set_option maxRecDepth 100000 in
def f_X12_isOne (v0 : Nat) (v1 : Int32) (Z : jZ) (I : jI) (L : jL) (Q : Int32 → jI → jL → Prop) : Prop := (f_X12_in v1 (0 : Int32) ((I v0 8) - (1 : Int32)) Z I L (fun r6 I3 L4 => Q r6 I3 L4))
set_option maxHeartbeats 4000000 in
set_option maxRecDepth 100000 in
theorem c_X12_isOne (l : Launch) (D : va_G) (cy : jC) (v0 : Nat) (v1 : Int32) (Z : jZ) (I : jI) (L : jL) (Q : Int32 → jI → jL → Prop) (hZ : SH Z) (kv0 : jk Z v0 12) (h : f_X12_isOne v0 v1 Z I L Q) : jCt l yX12_isOne w_X12_isOne { frames := 1, cells := 0, slots := 0, locals := 22 } D cy [.ref v0, .int v1] Z I L (rtZ Z Q) := by
  refine jCt_of (cc := cX12_isOne) (maxL := 2) (ret := (some .boolean)) (by decide +kernel) rfl (Nat.le_of_ble_eq_true rfl) ?_
  intro G eD eY eL E
  subst eD; subst eY; subst eL
  have E : jE G cX12_isOne RX12 w_X12_isOne 2 (some .boolean) { frames := 1, cells := 0, slots := 0, locals := 22 } (rtZ Z Q) := E
  show jJ G 2 0 [(0, .ref v0), (1, .int v1)] [] Z I L 0 0
  refine j_iload_n E dX12_isOne_0 1 rfl ?_
  refine j_iconst E (v := 0) dX12_isOne_1 (by decide) ?_
  refine j_aload_n E dX12_isOne_2 0 rfl ?_
  refine j_geti E 12 8 rfl rfl (by decide) (by decide) (iw iT_12) rfl rfl (tw W_682) kv0 dX12_isOne_3 ?_
  refine j_iconst E (v := 1) dX12_isOne_6 (by decide) ?_
  refine j_isub E dX12_isOne_7 ?_
  refine j_callS E [.int v1, .int (0 : Int32), .int ((I v0 8) - (1 : Int32))] [] (c_X12_in (gL G) (gD G) (gY G) v1 (0 : Int32) ((I v0 8) - (1 : Int32)) Z I L _ hZ  h) (gwS W_680 W_681 W_679 W_678) rfl fy_X12_in ⟨by decide, by decide⟩ rfl rfl (Nat.le_of_ble_eq_true rfl) ⟨Nat.zero_le _, Nat.zero_le _⟩ dX12_isOne_8 (fun v1 Z2 I3 L4 q5 => ?_)
  obtain ⟨rfl, r6, rfl, zr6, h⟩ := q5
  show jJ G 2 11 [(0, .ref v0), (1, .int v1)] [.int r6] Z I3 L4 0 0
  exact j_zreturn E zr6 ⟨rfl, _, rfl, zr6, h⟩ (Nat.zero_le _) (Nat.zero_le _) dX12_isOne_11
set_option maxRecDepth 100000 in
def f_X12_mainOf_b37 (K4 : Nat → Int32 → Int32 → Int32 → jI → jL → Prop) (Z : jZ) (Q : Int32 → jI → jL → Prop) (v0 : Nat) (v1 : Int32) (v2 : Int32) (v3 : Int32) (I : jI) (L : jL) : Prop := (∀ x1 : Int32, x1 = v3 + 1 → K4 v0 v1 v2 x1 I L)
set_option maxHeartbeats 4000000 in
set_option maxRecDepth 100000 in
theorem m_X12_mainOf_b37 {G : jG} {Z : jZ} {Q : Int32 → jI → jL → Prop} (E : jE G cX12_mainOf RX12 w_X12_mainOf 4 (some .int) { frames := 0, cells := 0, slots := 0, locals := 0 } (rtI Z Q)) (hZ : SH Z) (K4 : Nat → Int32 → Int32 → Int32 → jI → jL → Prop) (hK4 : ∀ (v0 : Nat) (v1 : Int32) (v2 : Int32) (v3 : Int32) (I : jI) (L : jL), jk Z v0 12 → K4 v0 v1 v2 v3 I L → jJ G 4 4 [(0, .ref v0), (1, .int v1), (2, .int v2), (3, .int v3)] [] Z I L 0 0) (v0 : Nat) (v1 : Int32) (v2 : Int32) (v3 : Int32) (I : jI) (L : jL) (kv0 : jk Z v0 12) (h : f_X12_mainOf_b37 K4 Z Q v0 v1 v2 v3 I L) : jJ G 4 37 [(0, .ref v0), (1, .int v1), (2, .int v2), (3, .int v3)] [] Z I L 0 0 := by
  obtain ⟨x1, ex1⟩ : ∃ y : Int32, y = v3 + 1 := ⟨_, rfl⟩
  have h := h x1 ex1
  refine j_iinc E x1 [(3, .int x1), (0, .ref v0), (1, .int v1), (2, .int v2)] dX12_mainOf_37 3 rfl (by rw [ex1]; rfl) (by decide) rfl ?_
  refine j_goto E 4 dX12_mainOf_40 (by decide) ?_
  refine j_sub [1, 2, 3, 0] rfl ?_
  exact hK4 v0 v1 v2 x1 I L kv0 h
set_option maxRecDepth 100000 in
def f_X12_mainOf_L4  (Z : jZ) (Q : Int32 → jI → jL → Prop) : Nat → Nat → Int32 → Int32 → Int32 → jI → jL → Prop
  | 0 => fun _ _ _ _ _ _ => False
  | n + 1 => fun v0 v1 v2 v3 I L => (((8 : Int32) ≤ v3 → Q v2 I L) ∧ (¬ ((8 : Int32) ≤ v3) → (∀ b3 : Nat, jr Z v0 5 = some b3 → (vp_in (((8 : Int32) * v1) + v3) 192 ∧ (∀ b5 : Nat, jr Z v0 5 = some b5 → (vp_in (((8 : Int32) * v1) + v2) 192 ∧ (((I b3 (((8 : Int32) * v1) + v3).toNatClampNeg) ≤ (I b5 (((8 : Int32) * v1) + v2).toNatClampNeg) → f_X12_mainOf_b37 (f_X12_mainOf_L4 Z Q n) Z Q v0 v1 v2 v3 I L) ∧ (¬ ((I b3 (((8 : Int32) * v1) + v3).toNatClampNeg) ≤ (I b5 (((8 : Int32) * v1) + v2).toNatClampNeg)) → f_X12_mainOf_b37 (f_X12_mainOf_L4 Z Q n) Z Q v0 v1 v3 v3 I L))))))))
set_option maxHeartbeats 4000000 in
set_option maxRecDepth 100000 in
theorem m_X12_mainOf_L4 {G : jG} {Z : jZ} {Q : Int32 → jI → jL → Prop} (E : jE G cX12_mainOf RX12 w_X12_mainOf 4 (some .int) { frames := 0, cells := 0, slots := 0, locals := 0 } (rtI Z Q)) (hZ : SH Z)  : ∀ (n : Nat) (v0 : Nat) (v1 : Int32) (v2 : Int32) (v3 : Int32) (I : jI) (L : jL), jk Z v0 12 → f_X12_mainOf_L4  Z Q n v0 v1 v2 v3 I L → jJ G 4 4 [(0, .ref v0), (1, .int v1), (2, .int v2), (3, .int v3)] [] Z I L 0 0 := by
  intro n
  induction n with
  | zero => intro v0 v1 v2 v3 I L _ h; exact h.elim
  | succ n ih =>
    intro v0 v1 v2 v3 I L kv0 h
    have h : (((8 : Int32) ≤ v3 → Q v2 I L) ∧ (¬ ((8 : Int32) ≤ v3) → (∀ b3 : Nat, jr Z v0 5 = some b3 → (vp_in (((8 : Int32) * v1) + v3) 192 ∧ (∀ b5 : Nat, jr Z v0 5 = some b5 → (vp_in (((8 : Int32) * v1) + v2) 192 ∧ (((I b3 (((8 : Int32) * v1) + v3).toNatClampNeg) ≤ (I b5 (((8 : Int32) * v1) + v2).toNatClampNeg) → f_X12_mainOf_b37 (f_X12_mainOf_L4 Z Q n) Z Q v0 v1 v2 v3 I L) ∧ (¬ ((I b3 (((8 : Int32) * v1) + v3).toNatClampNeg) ≤ (I b5 (((8 : Int32) * v1) + v2).toNatClampNeg)) → f_X12_mainOf_b37 (f_X12_mainOf_L4 Z Q n) Z Q v0 v1 v3 v3 I L)))))))) := h
    obtain ⟨K4, eK4⟩ : ∃ K : Nat → Int32 → Int32 → Int32 → jI → jL → Prop, K = f_X12_mainOf_L4  Z Q n := ⟨_, rfl⟩
    have hK4 := ih
    clear eK4 K4
    generalize f_X12_mainOf_L4  Z Q n = K4 at hK4 h
    refine j_iload_n E dX12_mainOf_4 3 rfl ?_
    refine j_bipush E (v := 8) dX12_mainOf_5 (by decide) ?_
    refine j_icmp_ge E 43 dX12_mainOf_7 (by decide) (fun c2 => ?_) (fun c2 => ?_)
    · have h := h.1 c2
      refine j_iload_n E dX12_mainOf_43 2 rfl ?_
      exact j_ireturn E ⟨rfl, _, rfl, h⟩ (Nat.zero_le _) (Nat.zero_le _) dX12_mainOf_44
    · have h := h.2 c2
      refine j_aload_n E dX12_mainOf_10 0 rfl ?_
      obtain ⟨b3, eb3, kb3, lb3⟩ := sh_f hZ kv0 (j := 5) (k := 14) (m := 192) rfl
      have h := h b3 eb3
      refine j_getr E 12 5 rfl rfl (by decide) (by decide) (iw iT_12) rfl rfl (tw W_683) kv0 eb3 dX12_mainOf_11 ?_
      refine j_bipush E (v := 8) dX12_mainOf_14 (by decide) ?_
      refine j_iload_n E dX12_mainOf_16 1 rfl ?_
      refine j_imul E dX12_mainOf_17 ?_
      refine j_iload_n E dX12_mainOf_18 3 rfl ?_
      refine j_iadd E dX12_mainOf_19 ?_
      obtain ⟨o4, h⟩ := h
      refine j_iald E kb3 (by rw [lb3]; exact o4) dX12_mainOf_20 ?_
      refine j_aload_n E dX12_mainOf_21 0 rfl ?_
      obtain ⟨b5, eb5, kb5, lb5⟩ := sh_f hZ kv0 (j := 5) (k := 14) (m := 192) rfl
      have h := h b5 eb5
      refine j_getr E 12 5 rfl rfl (by decide) (by decide) (iw iT_12) rfl rfl (tw W_683) kv0 eb5 dX12_mainOf_22 ?_
      refine j_bipush E (v := 8) dX12_mainOf_25 (by decide) ?_
      refine j_iload_n E dX12_mainOf_27 1 rfl ?_
      refine j_imul E dX12_mainOf_28 ?_
      refine j_iload_n E dX12_mainOf_29 2 rfl ?_
      refine j_iadd E dX12_mainOf_30 ?_
      obtain ⟨o6, h⟩ := h
      refine j_iald E kb5 (by rw [lb5]; exact o6) dX12_mainOf_31 ?_
      refine j_icmp_le E 37 dX12_mainOf_32 (by decide) (fun c7 => ?_) (fun c7 => ?_)
      · have h := h.1 c7
        refine j_sub [0, 1, 2, 3] rfl ?_
        exact m_X12_mainOf_b37 E hZ K4 hK4 v0 v1 v2 v3 I L kv0 h
      · have h := h.2 c7
        refine j_iload_n E dX12_mainOf_35 3 rfl ?_
        refine j_istore_n E 2 [(2, .int v3), (0, .ref v0), (1, .int v1), (3, .int v3)] dX12_mainOf_36 rfl (by decide) rfl ?_
        refine j_sub [1, 2, 0, 3] rfl ?_
        exact m_X12_mainOf_b37 E hZ K4 hK4 v0 v1 v3 v3 I L kv0 h
set_option maxRecDepth 100000 in
def f_X12_mainOf (v0 : Nat) (v1 : Int32) (Z : jZ) (I : jI) (L : jL) (Q : Int32 → jI → jL → Prop) : Prop := (∃ m4 : Nat, f_X12_mainOf_L4  Z Q m4 v0 v1 (0 : Int32) (1 : Int32) I L)
set_option maxHeartbeats 4000000 in
set_option maxRecDepth 100000 in
theorem c_X12_mainOf (l : Launch) (D : va_G) (cy : jC) (v0 : Nat) (v1 : Int32) (Z : jZ) (I : jI) (L : jL) (Q : Int32 → jI → jL → Prop) (hZ : SH Z) (kv0 : jk Z v0 12) (h : f_X12_mainOf v0 v1 Z I L Q) : jCt l yX12_mainOf w_X12_mainOf { frames := 0, cells := 0, slots := 0, locals := 0 } D cy [.ref v0, .int v1] Z I L (rtI Z Q) := by
  refine jCt_of (cc := cX12_mainOf) (maxL := 4) (ret := (some .int)) (by decide +kernel) rfl (Nat.le_of_ble_eq_true rfl) ?_
  intro G eD eY eL E
  subst eD; subst eY; subst eL
  have E : jE G cX12_mainOf RX12 w_X12_mainOf 4 (some .int) { frames := 0, cells := 0, slots := 0, locals := 0 } (rtI Z Q) := E
  show jJ G 4 0 [(0, .ref v0), (1, .int v1)] [] Z I L 0 0
  refine j_iconst E (v := 0) dX12_mainOf_0 (by decide) ?_
  refine j_istore_n E 2 [(2, .int (0 : Int32)), (0, .ref v0), (1, .int v1)] dX12_mainOf_1 rfl (by decide) rfl ?_
  refine j_iconst E (v := 1) dX12_mainOf_2 (by decide) ?_
  refine j_istore_n E 3 [(3, .int (1 : Int32)), (2, .int (0 : Int32)), (0, .ref v0), (1, .int v1)] dX12_mainOf_3 rfl (by decide) rfl ?_
  obtain ⟨n8, h⟩ := h
  refine j_sub [2, 3, 1, 0] rfl ?_
  exact m_X12_mainOf_L4 E hZ  n8 v0 v1 (0 : Int32) (1 : Int32) I L kv0 h
set_option maxRecDepth 100000 in
def f_X12_sign_L20  (Z : jZ) (Q : Int32 → jI → jL → Prop) : Nat → Nat → Int32 → Int32 → jI → jL → Prop
  | 0 => fun _ _ _ _ _ => False
  | n + 1 => fun v0 v1 v2 I L => ((v2 < 0 → Q (I v0 19) I L) ∧ (¬ (v2 < 0) → (∀ b2 : Nat, jr Z v0 18 = some b2 → (∀ I3 : jI, I3 = jpI I v0 19 ((I v0 19) + (1 : Int32)) → (vp_in (I v0 19) 80 ∧ (∀ I5 : jI, I5 = jpI I3 b2 (I v0 19).toNatClampNeg (vp_nar .byte ((v1 >>> (((8 : Int32) * v2) &&& 31)).toInt8.toInt32)) → (∀ x6 : Int32, x6 = v2 + (-1) → (f_X12_sign_L20 Z Q n) v0 v1 x6 I5 L)))))))
set_option maxHeartbeats 4000000 in
set_option maxRecDepth 100000 in
theorem m_X12_sign_L20 {G : jG} {Z : jZ} {Q : Int32 → jI → jL → Prop} (E : jE G cX12_sign RX12 w_X12_sign 3 (some .int) { frames := 0, cells := 0, slots := 0, locals := 0 } (rtI Z Q)) (hZ : SH Z)  : ∀ (n : Nat) (v0 : Nat) (v1 : Int32) (v2 : Int32) (I : jI) (L : jL), jk Z v0 12 → f_X12_sign_L20  Z Q n v0 v1 v2 I L → jJ G 3 20 [(0, .ref v0), (1, .int v1), (2, .int v2)] [] Z I L 0 0 := by
  intro n
  induction n with
  | zero => intro v0 v1 v2 I L _ h; exact h.elim
  | succ n ih =>
    intro v0 v1 v2 I L kv0 h
    have h : ((v2 < 0 → Q (I v0 19) I L) ∧ (¬ (v2 < 0) → (∀ b2 : Nat, jr Z v0 18 = some b2 → (∀ I3 : jI, I3 = jpI I v0 19 ((I v0 19) + (1 : Int32)) → (vp_in (I v0 19) 80 ∧ (∀ I5 : jI, I5 = jpI I3 b2 (I v0 19).toNatClampNeg (vp_nar .byte ((v1 >>> (((8 : Int32) * v2) &&& 31)).toInt8.toInt32)) → (∀ x6 : Int32, x6 = v2 + (-1) → (f_X12_sign_L20 Z Q n) v0 v1 x6 I5 L))))))) := h
    obtain ⟨K20, eK20⟩ : ∃ K : Nat → Int32 → Int32 → jI → jL → Prop, K = f_X12_sign_L20  Z Q n := ⟨_, rfl⟩
    have hK20 := ih
    clear eK20 K20
    generalize f_X12_sign_L20  Z Q n = K20 at hK20 h
    refine j_iload_n E dX12_sign_20 2 rfl ?_
    refine j_if_lt E 53 dX12_sign_21 (by decide) (fun c1 => ?_) (fun c1 => ?_)
    · have h := h.1 c1
      refine j_aload_n E dX12_sign_53 0 rfl ?_
      refine j_geti E 12 19 rfl rfl (by decide) (by decide) (iw iT_12) rfl rfl (tw W_684) kv0 dX12_sign_54 ?_
      exact j_ireturn E ⟨rfl, _, rfl, h⟩ (Nat.zero_le _) (Nat.zero_le _) dX12_sign_57
    · have h := h.2 c1
      refine j_aload_n E dX12_sign_24 0 rfl ?_
      obtain ⟨b2, eb2, kb2, lb2⟩ := sh_f hZ kv0 (j := 18) (k := 13) (m := 80) rfl
      have h := h b2 eb2
      refine j_getr E 12 18 rfl rfl (by decide) (by decide) (iw iT_12) rfl rfl (tw W_685) kv0 eb2 dX12_sign_25 ?_
      refine j_aload_n E dX12_sign_28 0 rfl ?_
      refine j_dup E dX12_sign_29 rfl ?_
      refine j_geti E 12 19 rfl rfl (by decide) (by decide) (iw iT_12) rfl rfl (tw W_684) kv0 dX12_sign_30 ?_
      refine j_dup_x1 E dX12_sign_33 rfl rfl ?_
      refine j_iconst E (v := 1) dX12_sign_34 (by decide) ?_
      refine j_iadd E dX12_sign_35 ?_
      refine j_puti E 12 19 rfl rfl (by decide) (by decide) (iw iT_12) tyX12_ok nmX12 rfl rfl (tw W_684) rfl rfl rfl kv0 dX12_sign_36 ?_
      refine j_nmI (fun I3 eI3 => ?_)
      have h := h I3 eI3
      refine j_iload_n E dX12_sign_39 1 rfl ?_
      refine j_bipush E (v := 8) dX12_sign_40 (by decide) ?_
      refine j_iload_n E dX12_sign_42 2 rfl ?_
      refine j_imul E dX12_sign_43 ?_
      refine j_ishr E dX12_sign_44 ?_
      refine j_i2b E dX12_sign_45 ?_
      obtain ⟨o4, h⟩ := h
      refine j_bast E kb2 (by rw [lb2]; exact o4) dX12_sign_46 ?_
      refine j_nmI (fun I5 eI5 => ?_)
      have h := h I5 eI5
      obtain ⟨x6, ex6⟩ : ∃ y : Int32, y = v2 + (-1) := ⟨_, rfl⟩
      have h := h x6 ex6
      refine j_iinc E x6 [(2, .int x6), (0, .ref v0), (1, .int v1)] dX12_sign_47 2 rfl (by rw [ex6]; rfl) (by decide) rfl ?_
      refine j_goto E 20 dX12_sign_50 (by decide) ?_
      refine j_sub [1, 2, 0] rfl ?_
      exact hK20 v0 v1 x6 I5 L kv0 h
set_option maxRecDepth 100000 in
def f_X12_sign (v0 : Nat) (v1 : Int32) (Z : jZ) (I : jI) (L : jL) (Q : Int32 → jI → jL → Prop) : Prop := (∀ I7 : jI, I7 = jpI I v0 22 (0 : Int32) → ((((I7 v0 19) + (4 : Int32)) ≤ (80 : Int32) → (∃ m20 : Nat, f_X12_sign_L20  Z Q m20 v0 v1 (3 : Int32) I7 L)) ∧ (¬ (((I7 v0 19) + (4 : Int32)) ≤ (80 : Int32)) → Q (-1 : Int32) I7 L)))
set_option maxHeartbeats 4000000 in
set_option maxRecDepth 100000 in
theorem c_X12_sign (l : Launch) (D : va_G) (cy : jC) (v0 : Nat) (v1 : Int32) (Z : jZ) (I : jI) (L : jL) (Q : Int32 → jI → jL → Prop) (hZ : SH Z) (kv0 : jk Z v0 12) (h : f_X12_sign v0 v1 Z I L Q) : jCt l yX12_sign w_X12_sign { frames := 0, cells := 0, slots := 0, locals := 0 } D cy [.ref v0, .int v1] Z I L (rtI Z Q) := by
  refine jCt_of (cc := cX12_sign) (maxL := 3) (ret := (some .int)) (by decide +kernel) rfl (Nat.le_of_ble_eq_true rfl) ?_
  intro G eD eY eL E
  subst eD; subst eY; subst eL
  have E : jE G cX12_sign RX12 w_X12_sign 3 (some .int) { frames := 0, cells := 0, slots := 0, locals := 0 } (rtI Z Q) := E
  show jJ G 3 0 [(0, .ref v0), (1, .int v1)] [] Z I L 0 0
  refine j_aload_n E dX12_sign_0 0 rfl ?_
  refine j_iconst E (v := 0) dX12_sign_1 (by decide) ?_
  refine j_puti E 12 22 rfl rfl (by decide) (by decide) (iw iT_12) tyX12_ok nmX12 rfl rfl (tw W_674) rfl rfl rfl kv0 dX12_sign_2 ?_
  refine j_nmI (fun I7 eI7 => ?_)
  have h := h I7 eI7
  refine j_aload_n E dX12_sign_5 0 rfl ?_
  refine j_geti E 12 19 rfl rfl (by decide) (by decide) (iw iT_12) rfl rfl (tw W_684) kv0 dX12_sign_6 ?_
  refine j_iconst E (v := 4) dX12_sign_9 (by decide) ?_
  refine j_iadd E dX12_sign_10 ?_
  refine j_bipush E (v := 80) dX12_sign_11 (by decide) ?_
  refine j_icmp_le E 18 dX12_sign_13 (by decide) (fun c8 => ?_) (fun c8 => ?_)
  · have h := h.1 c8
    refine j_iconst E (v := 3) dX12_sign_18 (by decide) ?_
    refine j_istore_n E 2 [(2, .int (3 : Int32)), (0, .ref v0), (1, .int v1)] dX12_sign_19 rfl (by decide) rfl ?_
    obtain ⟨n9, h⟩ := h
    refine j_sub [1, 2, 0] rfl ?_
    exact m_X12_sign_L20 E hZ  n9 v0 v1 (3 : Int32) I7 L kv0 h
  · have h := h.2 c8
    refine j_iconst E (v := -1) dX12_sign_16 (by decide) ?_
    exact j_ireturn E ⟨rfl, _, rfl, h⟩ (Nat.zero_le _) (Nat.zero_le _) dX12_sign_17
set_option maxRecDepth 100000 in
def f_X12_end (v0 : Nat) (v1 : Int32) (Z : jZ) (I : jI) (L : jL) (Q : Int32 → jI → jL → Prop) : Prop := (∀ I1 : jI, I1 = jpI I v0 22 (0 : Int32) → (f_X12_in v1 (0 : Int32) (I1 v0 19) Z I1 L (fun r7 I4 L5 => ((¬ r7 = 0 → (∀ I9 : jI, I9 = jpI I4 v0 19 v1 → Q (1 : Int32) I9 L5)) ∧ (r7 = 0 → Q (0 : Int32) I4 L5)))))
set_option maxHeartbeats 4000000 in
set_option maxRecDepth 100000 in
theorem c_X12_end (l : Launch) (D : va_G) (cy : jC) (v0 : Nat) (v1 : Int32) (Z : jZ) (I : jI) (L : jL) (Q : Int32 → jI → jL → Prop) (hZ : SH Z) (kv0 : jk Z v0 12) (h : f_X12_end v0 v1 Z I L Q) : jCt l yX12_end w_X12_end { frames := 1, cells := 0, slots := 0, locals := 22 } D cy [.ref v0, .int v1] Z I L (rtZ Z Q) := by
  refine jCt_of (cc := cX12_end) (maxL := 2) (ret := (some .boolean)) (by decide +kernel) rfl (Nat.le_of_ble_eq_true rfl) ?_
  intro G eD eY eL E
  subst eD; subst eY; subst eL
  have E : jE G cX12_end RX12 w_X12_end 2 (some .boolean) { frames := 1, cells := 0, slots := 0, locals := 22 } (rtZ Z Q) := E
  show jJ G 2 0 [(0, .ref v0), (1, .int v1)] [] Z I L 0 0
  refine j_aload_n E dX12_end_0 0 rfl ?_
  refine j_iconst E (v := 0) dX12_end_1 (by decide) ?_
  refine j_puti E 12 22 rfl rfl (by decide) (by decide) (iw iT_12) tyX12_ok nmX12 rfl rfl (tw W_674) rfl rfl rfl kv0 dX12_end_2 ?_
  refine j_nmI (fun I1 eI1 => ?_)
  have h := h I1 eI1
  refine j_iload_n E dX12_end_5 1 rfl ?_
  refine j_iconst E (v := 0) dX12_end_6 (by decide) ?_
  refine j_aload_n E dX12_end_7 0 rfl ?_
  refine j_geti E 12 19 rfl rfl (by decide) (by decide) (iw iT_12) rfl rfl (tw W_684) kv0 dX12_end_8 ?_
  refine j_callS E [.int v1, .int (0 : Int32), .int (I1 v0 19)] [] (c_X12_in (gL G) (gD G) (gY G) v1 (0 : Int32) (I1 v0 19) Z I1 L _ hZ  h) (gwS W_680 W_681 W_679 W_678) rfl fy_X12_in ⟨by decide, by decide⟩ rfl rfl (Nat.le_of_ble_eq_true rfl) ⟨Nat.zero_le _, Nat.zero_le _⟩ dX12_end_11 (fun v2 Z3 I4 L5 q6 => ?_)
  obtain ⟨rfl, r7, rfl, zr7, h⟩ := q6
  show jJ G 2 14 [(0, .ref v0), (1, .int v1)] [.int r7] Z I4 L5 0 0
  refine j_if_ne E 19 dX12_end_14 (by decide) (fun c8 => ?_) (fun c8 => ?_)
  · have h := h.1 c8
    refine j_aload_n E dX12_end_19 0 rfl ?_
    refine j_iload_n E dX12_end_20 1 rfl ?_
    refine j_puti E 12 19 rfl rfl (by decide) (by decide) (iw iT_12) tyX12_ok nmX12 rfl rfl (tw W_684) rfl rfl rfl kv0 dX12_end_21 ?_
    refine j_nmI (fun I9 eI9 => ?_)
    have h := h I9 eI9
    refine j_iconst E (v := 1) dX12_end_24 (by decide) ?_
    exact j_zreturn E (Or.inr rfl) ⟨rfl, _, rfl, (Or.inr rfl), h⟩ (Nat.zero_le _) (Nat.zero_le _) dX12_end_25
  · have h := h.2 c8
    refine j_iconst E (v := 0) dX12_end_17 (by decide) ?_
    exact j_zreturn E (Or.inl rfl) ⟨rfl, _, rfl, (Or.inl rfl), h⟩ (Nat.zero_le _) (Nat.zero_le _) dX12_end_18
set_option maxRecDepth 100000 in
def f_X12_begin (v0 : Nat) (v1 : Nat) (v2 : Int32) (v3 : Int32) (Z : jZ) (I : jI) (L : jL) (Q : jZ → jI → jL → Prop) : Prop := (∀ Z1 : jZ, Z1 = jpR Z v0 23 (some v1) → (∀ I4 : jI, I4 = jpI I v0 24 v2 → (∀ I5 : jI, I5 = jpI I4 v0 25 v3 → (∀ I6 : jI, I6 = jpI I5 v0 26 (0 : Int32) → (∀ I7 : jI, I7 = jpI I6 v0 27 (-1 : Int32) → Q Z1 I7 L)))))
set_option maxHeartbeats 4000000 in
set_option maxRecDepth 100000 in
theorem c_X12_begin (l : Launch) (D : va_G) (cy : jC) (v0 : Nat) (v1 : Nat) (v2 : Int32) (v3 : Int32) (Z : jZ) (I : jI) (L : jL) (Q : jZ → jI → jL → Prop) (hZ : SH Z) (kv0 : jk Z v0 12) (kv1 : jk Z v1 13) (h : f_X12_begin v0 v1 v2 v3 Z I L Q) : jCt l yX12_begin w_X12_begin { frames := 0, cells := 0, slots := 0, locals := 0 } D cy [.ref v0, .ref v1, .int v2, .int v3] Z I L (xrtV Z Q) := by
  refine jCt_of (cc := cX12_begin) (maxL := 4) (ret := none) (by decide +kernel) rfl (Nat.le_of_ble_eq_true rfl) ?_
  intro G eD eY eL E
  subst eD; subst eY; subst eL
  have E : jE G cX12_begin RX12 w_X12_begin 4 none { frames := 0, cells := 0, slots := 0, locals := 0 } (xrtV Z Q) := E
  have hx : jext Z Z := jext_rfl
  show jJ G 4 0 [(0, .ref v0), (1, .ref v1), (2, .int v2), (3, .int v3)] [] Z I L 0 0
  refine j_aload_n E dX12_begin_0 0 rfl ?_
  refine j_aload_n E dX12_begin_1 1 rfl ?_
  refine j_putr E 12 23 rfl rfl (by decide) (by decide) (iw iT_12) tyX12_ok nmX12 rfl rfl (tw W_686) rfl kv0 dX12_begin_2 ?_
  refine j_nmZ (fun Z1 eZ1 => ?_)
  have h := h Z1 eZ1
  have yZ1 : jext Z Z1 := by rw [eZ1]; exact jext_putr
  have hZ : SH Z1 := by rw [eZ1]; exact SH_putr hZ kv0 rfl
  have hx : jext Z Z1 := jext_trans hx yZ1
  have k2 := (yZ1 _ _ kv0).1
  have k3 := (yZ1 _ _ kv1).1
  refine j_aload_n E dX12_begin_5 0 rfl ?_
  refine j_iload_n E dX12_begin_6 2 rfl ?_
  refine j_puti E 12 24 rfl rfl (by decide) (by decide) (iw iT_12) tyX12_ok nmX12 rfl rfl (tw W_687) rfl rfl rfl k2 dX12_begin_7 ?_
  refine j_nmI (fun I4 eI4 => ?_)
  have h := h I4 eI4
  refine j_aload_n E dX12_begin_10 0 rfl ?_
  refine j_iload_n E dX12_begin_11 3 rfl ?_
  refine j_puti E 12 25 rfl rfl (by decide) (by decide) (iw iT_12) tyX12_ok nmX12 rfl rfl (tw W_688) rfl rfl rfl k2 dX12_begin_12 ?_
  refine j_nmI (fun I5 eI5 => ?_)
  have h := h I5 eI5
  refine j_aload_n E dX12_begin_15 0 rfl ?_
  refine j_iconst E (v := 0) dX12_begin_16 (by decide) ?_
  refine j_puti E 12 26 rfl rfl (by decide) (by decide) (iw iT_12) tyX12_ok nmX12 rfl rfl (tw W_689) rfl rfl rfl k2 dX12_begin_17 ?_
  refine j_nmI (fun I6 eI6 => ?_)
  have h := h I6 eI6
  refine j_aload_n E dX12_begin_20 0 rfl ?_
  refine j_iconst E (v := -1) dX12_begin_21 (by decide) ?_
  refine j_puti E 12 27 rfl rfl (by decide) (by decide) (iw iT_12) tyX12_ok nmX12 rfl rfl (tw W_690) rfl rfl rfl k2 dX12_begin_22 ?_
  refine j_nmI (fun I7 eI7 => ?_)
  have h := h I7 eI7
  exact j_return E ⟨hx, hZ, rfl, h⟩ (Nat.zero_le _) (Nat.zero_le _) dX12_begin_25
set_option maxRecDepth 100000 in
def f_X12_here (v0 : Nat) (Z : jZ) (I : jI) (L : jL) (Q : Int32 → jI → jL → Prop) : Prop := (((I v0 24) ≤ (I v0 26) → Q (-1 : Int32) I L) ∧ (¬ ((I v0 24) ≤ (I v0 26)) → (((I v0 25) ≤ (I v0 26) → Q (-1 : Int32) I L) ∧ (¬ ((I v0 25) ≤ (I v0 26)) → (∃ b3 : Nat, jr Z v0 23 = some b3 ∧ jk Z b3 13 ∧ (vp_in (I v0 26) (jlen Z b3) ∧ Q (I b3 (I v0 26).toNatClampNeg) I L))))))
set_option maxHeartbeats 4000000 in
set_option maxRecDepth 100000 in
theorem c_X12_here (l : Launch) (D : va_G) (cy : jC) (v0 : Nat) (Z : jZ) (I : jI) (L : jL) (Q : Int32 → jI → jL → Prop) (hZ : SH Z) (kv0 : jk Z v0 12) (h : f_X12_here v0 Z I L Q) : jCt l yX12_here w_X12_here { frames := 0, cells := 0, slots := 0, locals := 0 } D cy [.ref v0] Z I L (rtI Z Q) := by
  refine jCt_of (cc := cX12_here) (maxL := 1) (ret := (some .int)) (by decide +kernel) rfl (Nat.le_of_ble_eq_true rfl) ?_
  intro G eD eY eL E
  subst eD; subst eY; subst eL
  have E : jE G cX12_here RX12 w_X12_here 1 (some .int) { frames := 0, cells := 0, slots := 0, locals := 0 } (rtI Z Q) := E
  show jJ G 1 0 [(0, .ref v0)] [] Z I L 0 0
  refine j_aload_n E dX12_here_0 0 rfl ?_
  refine j_geti E 12 26 rfl rfl (by decide) (by decide) (iw iT_12) rfl rfl (tw W_689) kv0 dX12_here_1 ?_
  refine j_aload_n E dX12_here_4 0 rfl ?_
  refine j_geti E 12 24 rfl rfl (by decide) (by decide) (iw iT_12) rfl rfl (tw W_687) kv0 dX12_here_5 ?_
  refine j_icmp_ge E 34 dX12_here_8 (by decide) (fun c1 => ?_) (fun c1 => ?_)
  · have h := h.1 c1
    refine j_iconst E (v := -1) dX12_here_34 (by decide) ?_
    exact j_ireturn E ⟨rfl, _, rfl, h⟩ (Nat.zero_le _) (Nat.zero_le _) dX12_here_35
  · have h := h.2 c1
    refine j_aload_n E dX12_here_11 0 rfl ?_
    refine j_geti E 12 26 rfl rfl (by decide) (by decide) (iw iT_12) rfl rfl (tw W_689) kv0 dX12_here_12 ?_
    refine j_aload_n E dX12_here_15 0 rfl ?_
    refine j_geti E 12 25 rfl rfl (by decide) (by decide) (iw iT_12) rfl rfl (tw W_688) kv0 dX12_here_16 ?_
    refine j_icmp_ge E 34 dX12_here_19 (by decide) (fun c2 => ?_) (fun c2 => ?_)
    · have h := h.1 c2
      refine j_iconst E (v := -1) dX12_here_34 (by decide) ?_
      exact j_ireturn E ⟨rfl, _, rfl, h⟩ (Nat.zero_le _) (Nat.zero_le _) dX12_here_35
    · have h := h.2 c2
      refine j_aload_n E dX12_here_22 0 rfl ?_
      obtain ⟨b3, eb3, kb3, h⟩ := h
      refine j_getr E 12 23 rfl rfl (by decide) (by decide) (iw iT_12) rfl rfl (tw W_686) kv0 eb3 dX12_here_23 ?_
      refine j_aload_n E dX12_here_26 0 rfl ?_
      refine j_geti E 12 26 rfl rfl (by decide) (by decide) (iw iT_12) rfl rfl (tw W_689) kv0 dX12_here_27 ?_
      obtain ⟨o4, h⟩ := h
      refine j_bald E kb3 o4 dX12_here_30 ?_
      refine j_goto E 35 dX12_here_31 (by decide) ?_
      exact j_ireturn E ⟨rfl, _, rfl, h⟩ (Nat.zero_le _) (Nat.zero_le _) dX12_here_35
set_option maxRecDepth 100000 in
def f_X12_fine (v0 : Nat) (Z : jZ) (I : jI) (L : jL) (Q : Int32 → jI → jL → Prop) : Prop := ((¬ (I v0 27) = (-1 : Int32) → Q (0 : Int32) I L) ∧ ((I v0 27) = (-1 : Int32) → Q (1 : Int32) I L))
set_option maxHeartbeats 4000000 in
set_option maxRecDepth 100000 in
theorem c_X12_fine (l : Launch) (D : va_G) (cy : jC) (v0 : Nat) (Z : jZ) (I : jI) (L : jL) (Q : Int32 → jI → jL → Prop) (hZ : SH Z) (kv0 : jk Z v0 12) (h : f_X12_fine v0 Z I L Q) : jCt l yX12_fine w_X12_fine { frames := 0, cells := 0, slots := 0, locals := 0 } D cy [.ref v0] Z I L (rtZ Z Q) := by
  refine jCt_of (cc := cX12_fine) (maxL := 1) (ret := (some .boolean)) (by decide +kernel) rfl (Nat.le_of_ble_eq_true rfl) ?_
  intro G eD eY eL E
  subst eD; subst eY; subst eL
  have E : jE G cX12_fine RX12 w_X12_fine 1 (some .boolean) { frames := 0, cells := 0, slots := 0, locals := 0 } (rtZ Z Q) := E
  show jJ G 1 0 [(0, .ref v0)] [] Z I L 0 0
  refine j_aload_n E dX12_fine_0 0 rfl ?_
  refine j_geti E 12 27 rfl rfl (by decide) (by decide) (iw iT_12) rfl rfl (tw W_690) kv0 dX12_fine_1 ?_
  refine j_iconst E (v := -1) dX12_fine_4 (by decide) ?_
  refine j_icmp_ne E 12 dX12_fine_5 (by decide) (fun c1 => ?_) (fun c1 => ?_)
  · have h := h.1 c1
    refine j_iconst E (v := 0) dX12_fine_12 (by decide) ?_
    exact j_zreturn E (Or.inl rfl) ⟨rfl, _, rfl, (Or.inl rfl), h⟩ (Nat.zero_le _) (Nat.zero_le _) dX12_fine_13
  · have h := h.2 c1
    refine j_iconst E (v := 1) dX12_fine_8 (by decide) ?_
    refine j_goto E 13 dX12_fine_9 (by decide) ?_
    exact j_zreturn E (Or.inr rfl) ⟨rfl, _, rfl, (Or.inr rfl), h⟩ (Nat.zero_le _) (Nat.zero_le _) dX12_fine_13
set_option maxRecDepth 100000 in
def f_X12_fault (v0 : Nat) (v1 : Int32) (Z : jZ) (I : jI) (L : jL) (Q : jI → jL → Prop) : Prop := (f_X12_fine v0 Z I L (fun r6 I3 L4 => ((r6 = 0 → Q I3 L4) ∧ (¬ (r6 = 0) → (∀ I8 : jI, I8 = jpI I3 v0 27 v1 → Q I8 L4)))))
set_option maxHeartbeats 4000000 in
set_option maxRecDepth 100000 in
theorem c_X12_fault (l : Launch) (D : va_G) (cy : jC) (v0 : Nat) (v1 : Int32) (Z : jZ) (I : jI) (L : jL) (Q : jI → jL → Prop) (hZ : SH Z) (kv0 : jk Z v0 12) (h : f_X12_fault v0 v1 Z I L Q) : jCt l yX12_fault w_X12_fault { frames := 1, cells := 0, slots := 0, locals := 20 } D cy [.ref v0, .int v1] Z I L (rtV Z Q) := by
  refine jCt_of (cc := cX12_fault) (maxL := 2) (ret := none) (by decide +kernel) rfl (Nat.le_of_ble_eq_true rfl) ?_
  intro G eD eY eL E
  subst eD; subst eY; subst eL
  have E : jE G cX12_fault RX12 w_X12_fault 2 none { frames := 1, cells := 0, slots := 0, locals := 20 } (rtV Z Q) := E
  show jJ G 2 0 [(0, .ref v0), (1, .int v1)] [] Z I L 0 0
  refine j_aload_n E dX12_fault_0 0 rfl ?_
  refine j_callV E [] [] (c_X12_fine (gL G) (gD G) (gY G) v0 Z I L _ hZ kv0 h) (gwV W_692 W_693 W_694 W_679 W_691) rfl ⟨rfl, fy_X12_fine⟩ ⟨by decide, by decide⟩ (c := 12) rfl (by decide) kv0 rfl rfl (Nat.le_of_ble_eq_true rfl) ⟨Nat.zero_le _, Nat.zero_le _⟩ dX12_fault_1 (fun v1 Z2 I3 L4 q5 => ?_)
  obtain ⟨rfl, r6, rfl, zr6, h⟩ := q5
  show jJ G 2 4 [(0, .ref v0), (1, .int v1)] [.int r6] Z I3 L4 0 0
  refine j_if_eq E 12 dX12_fault_4 (by decide) (fun c7 => ?_) (fun c7 => ?_)
  · have h := h.1 c7
    exact j_return E ⟨rfl, rfl, h⟩ (Nat.zero_le _) (Nat.zero_le _) dX12_fault_12
  · have h := h.2 c7
    refine j_aload_n E dX12_fault_7 0 rfl ?_
    refine j_iload_n E dX12_fault_8 1 rfl ?_
    refine j_puti E 12 27 rfl rfl (by decide) (by decide) (iw iT_12) tyX12_ok nmX12 rfl rfl (tw W_690) rfl rfl rfl kv0 dX12_fault_9 ?_
    refine j_nmI (fun I8 eI8 => ?_)
    have h := h I8 eI8
    exact j_return E ⟨rfl, rfl, h⟩ (Nat.zero_le _) (Nat.zero_le _) dX12_fault_12
set_option maxRecDepth 100000 in
def f_X12_passes (v0 : Nat) (v1 : Int32) (Z : jZ) (I : jI) (L : jL) (Q : Int32 → jI → jL → Prop) : Prop := (f_X12_fine v0 Z I L (fun r6 I3 L4 => ((r6 = 0 → Q (0 : Int32) I3 L4) ∧ (¬ (r6 = 0) → (f_X12_here v0 Z I3 L4 (fun r13 I10 L11 => ((r13 = v1 → (∀ I15 : jI, I15 = jpI I10 v0 26 ((I10 v0 26) + (1 : Int32)) → Q (1 : Int32) I15 L11)) ∧ (¬ (r13 = v1) → Q (0 : Int32) I10 L11))))))))
set_option maxHeartbeats 4000000 in
set_option maxRecDepth 100000 in
theorem c_X12_passes (l : Launch) (D : va_G) (cy : jC) (v0 : Nat) (v1 : Int32) (Z : jZ) (I : jI) (L : jL) (Q : Int32 → jI → jL → Prop) (hZ : SH Z) (kv0 : jk Z v0 12) (h : f_X12_passes v0 v1 Z I L Q) : jCt l yX12_passes w_X12_passes { frames := 1, cells := 0, slots := 0, locals := 20 } D cy [.ref v0, .int v1] Z I L (rtZ Z Q) := by
  refine jCt_of (cc := cX12_passes) (maxL := 2) (ret := (some .boolean)) (by decide +kernel) rfl (Nat.le_of_ble_eq_true rfl) ?_
  intro G eD eY eL E
  subst eD; subst eY; subst eL
  have E : jE G cX12_passes RX12 w_X12_passes 2 (some .boolean) { frames := 1, cells := 0, slots := 0, locals := 20 } (rtZ Z Q) := E
  show jJ G 2 0 [(0, .ref v0), (1, .int v1)] [] Z I L 0 0
  refine j_aload_n E dX12_passes_0 0 rfl ?_
  refine j_callV E [] [] (c_X12_fine (gL G) (gD G) (gY G) v0 Z I L _ hZ kv0 h) (gwV W_692 W_693 W_694 W_679 W_691) rfl ⟨rfl, fy_X12_fine⟩ ⟨by decide, by decide⟩ (c := 12) rfl (by decide) kv0 rfl rfl (Nat.le_of_ble_eq_true rfl) ⟨Nat.zero_le _, Nat.zero_le _⟩ dX12_passes_1 (fun v1 Z2 I3 L4 q5 => ?_)
  obtain ⟨rfl, r6, rfl, zr6, h⟩ := q5
  show jJ G 2 4 [(0, .ref v0), (1, .int v1)] [.int r6] Z I3 L4 0 0
  refine j_if_eq E 15 dX12_passes_4 (by decide) (fun c7 => ?_) (fun c7 => ?_)
  · have h := h.1 c7
    refine j_iconst E (v := 0) dX12_passes_15 (by decide) ?_
    exact j_zreturn E (Or.inl rfl) ⟨rfl, _, rfl, (Or.inl rfl), h⟩ (Nat.zero_le _) (Nat.zero_le _) dX12_passes_16
  · have h := h.2 c7
    refine j_aload_n E dX12_passes_7 0 rfl ?_
    refine j_callV E [] [] (c_X12_here (gL G) (gD G) (gY G) v0 Z I3 L4 _ hZ kv0 h) (gwV W_696 W_697 W_698 W_679 W_695) rfl ⟨rfl, fy_X12_here⟩ ⟨by decide, by decide⟩ (c := 12) rfl (by decide) kv0 rfl rfl (Nat.le_of_ble_eq_true rfl) ⟨Nat.zero_le _, Nat.zero_le _⟩ dX12_passes_8 (fun v8 Z9 I10 L11 q12 => ?_)
    obtain ⟨rfl, r13, rfl, h⟩ := q12
    show jJ G 2 11 [(0, .ref v0), (1, .int v1)] [.int r13] Z I10 L11 0 0
    refine j_iload_n E dX12_passes_11 1 rfl ?_
    refine j_icmp_eq E 17 dX12_passes_12 (by decide) (fun c14 => ?_) (fun c14 => ?_)
    · have h := h.1 c14
      refine j_aload_n E dX12_passes_17 0 rfl ?_
      refine j_dup E dX12_passes_18 rfl ?_
      refine j_geti E 12 26 rfl rfl (by decide) (by decide) (iw iT_12) rfl rfl (tw W_689) kv0 dX12_passes_19 ?_
      refine j_iconst E (v := 1) dX12_passes_22 (by decide) ?_
      refine j_iadd E dX12_passes_23 ?_
      refine j_puti E 12 26 rfl rfl (by decide) (by decide) (iw iT_12) tyX12_ok nmX12 rfl rfl (tw W_689) rfl rfl rfl kv0 dX12_passes_24 ?_
      refine j_nmI (fun I15 eI15 => ?_)
      have h := h I15 eI15
      refine j_iconst E (v := 1) dX12_passes_27 (by decide) ?_
      exact j_zreturn E (Or.inr rfl) ⟨rfl, _, rfl, (Or.inr rfl), h⟩ (Nat.zero_le _) (Nat.zero_le _) dX12_passes_28
    · have h := h.2 c14
      refine j_iconst E (v := 0) dX12_passes_15 (by decide) ?_
      exact j_zreturn E (Or.inl rfl) ⟨rfl, _, rfl, (Or.inl rfl), h⟩ (Nat.zero_le _) (Nat.zero_le _) dX12_passes_16
set_option maxRecDepth 100000 in
def f_X12_need (v0 : Nat) (v1 : Int32) (Z : jZ) (I : jI) (L : jL) (Q : jI → jL → Prop) : Prop := (f_X12_passes v0 v1 Z I L (fun r6 I3 L4 => ((¬ r6 = 0 → Q I3 L4) ∧ (r6 = 0 → (f_X12_fault v0 (I3 v0 26) Z I3 L4 (fun I10 L11 => Q I10 L11))))))
set_option maxHeartbeats 4000000 in
set_option maxRecDepth 100000 in
theorem c_X12_need (l : Launch) (D : va_G) (cy : jC) (v0 : Nat) (v1 : Int32) (Z : jZ) (I : jI) (L : jL) (Q : jI → jL → Prop) (hZ : SH Z) (kv0 : jk Z v0 12) (h : f_X12_need v0 v1 Z I L Q) : jCt l yX12_need w_X12_need { frames := 2, cells := 0, slots := 0, locals := 41 } D cy [.ref v0, .int v1] Z I L (rtV Z Q) := by
  refine jCt_of (cc := cX12_need) (maxL := 2) (ret := none) (by decide +kernel) rfl (Nat.le_of_ble_eq_true rfl) ?_
  intro G eD eY eL E
  subst eD; subst eY; subst eL
  have E : jE G cX12_need RX12 w_X12_need 2 none { frames := 2, cells := 0, slots := 0, locals := 41 } (rtV Z Q) := E
  show jJ G 2 0 [(0, .ref v0), (1, .int v1)] [] Z I L 0 0
  refine j_aload_n E dX12_need_0 0 rfl ?_
  refine j_iload_n E dX12_need_1 1 rfl ?_
  refine j_callV E [.int v1] [] (c_X12_passes (gL G) (gD G) (gY G) v0 v1 Z I L _ hZ kv0 h) (gwV W_700 W_701 W_702 W_679 W_699) rfl ⟨rfl, fy_X12_passes⟩ ⟨by decide, by decide⟩ (c := 12) rfl (by decide) kv0 rfl rfl (Nat.le_of_ble_eq_true rfl) ⟨Nat.zero_le _, Nat.zero_le _⟩ dX12_need_2 (fun v1 Z2 I3 L4 q5 => ?_)
  obtain ⟨rfl, r6, rfl, zr6, h⟩ := q5
  show jJ G 2 5 [(0, .ref v0), (1, .int v1)] [.int r6] Z I3 L4 0 0
  refine j_if_ne E 16 dX12_need_5 (by decide) (fun c7 => ?_) (fun c7 => ?_)
  · have h := h.1 c7
    exact j_return E ⟨rfl, rfl, h⟩ (Nat.zero_le _) (Nat.zero_le _) dX12_need_16
  · have h := h.2 c7
    refine j_aload_n E dX12_need_8 0 rfl ?_
    refine j_aload_n E dX12_need_9 0 rfl ?_
    refine j_geti E 12 26 rfl rfl (by decide) (by decide) (iw iT_12) rfl rfl (tw W_689) kv0 dX12_need_10 ?_
    refine j_callV E [.int (I3 v0 26)] [] (c_X12_fault (gL G) (gD G) (gY G) v0 (I3 v0 26) Z I3 L4 _ hZ kv0 h) (gwV W_704 W_705 W_706 W_679 W_703) rfl ⟨rfl, fy_X12_fault⟩ ⟨by decide, by decide⟩ (c := 12) rfl (by decide) kv0 rfl rfl (Nat.le_of_ble_eq_true rfl) ⟨Nat.zero_le _, Nat.zero_le _⟩ dX12_need_13 (fun v8 Z9 I10 L11 q12 => ?_)
    obtain ⟨rfl, rfl, h⟩ := q12
    show jJ G 2 16 [(0, .ref v0), (1, .int v1)] [] Z I10 L11 0 0
    exact j_return E ⟨rfl, rfl, h⟩ (Nat.zero_le _) (Nat.zero_le _) dX12_need_16
set_option maxRecDepth 100000 in
def f_X12_number_b111  (Z : jZ) (Q : Int32 → jI → jL → Prop) (v0 : Nat) (v5 : Int32) (I : jI) (L : jL) : Prop := (f_X12_fine v0 Z I L (fun r6 I3 L4 => ((r6 = 0 → Q (0 : Int32) I3 L4) ∧ (¬ (r6 = 0) → Q v5 I3 L4))))
set_option maxHeartbeats 4000000 in
set_option maxRecDepth 100000 in
theorem m_X12_number_b111 {G : jG} {Z : jZ} {Q : Int32 → jI → jL → Prop} (E : jE G cX12_number RX12 w_X12_number 6 (some .int) { frames := 2, cells := 0, slots := 0, locals := 41 } (rtI Z Q)) (hZ : SH Z)  (v0 : Nat) (v5 : Int32) (I : jI) (L : jL) (kv0 : jk Z v0 12) (h : f_X12_number_b111  Z Q v0 v5 I L) : jJ G 6 111 [(0, .ref v0), (5, .int v5)] [] Z I L 0 0 := by
  refine j_aload_n E dX12_number_111 0 rfl ?_
  refine j_callV E [] [] (c_X12_fine (gL G) (gD G) (gY G) v0 Z I L _ hZ kv0 h) (gwV W_692 W_693 W_694 W_679 W_691) rfl ⟨rfl, fy_X12_fine⟩ ⟨by decide, by decide⟩ (c := 12) rfl (by decide) kv0 rfl rfl (Nat.le_of_ble_eq_true rfl) ⟨Nat.zero_le _, Nat.zero_le _⟩ dX12_number_112 (fun v1 Z2 I3 L4 q5 => ?_)
  obtain ⟨rfl, r6, rfl, zr6, h⟩ := q5
  show jJ G 6 115 [(0, .ref v0), (5, .int v5)] [.int r6] Z I3 L4 0 0
  refine j_if_eq E 123 dX12_number_115 (by decide) (fun c7 => ?_) (fun c7 => ?_)
  · have h := h.1 c7
    refine j_iconst E (v := 0) dX12_number_123 (by decide) ?_
    exact j_ireturn E ⟨rfl, _, rfl, h⟩ (Nat.zero_le _) (Nat.zero_le _) dX12_number_124
  · have h := h.2 c7
    refine j_iload E dX12_number_118 1 rfl ?_
    refine j_goto E 124 dX12_number_120 (by decide) ?_
    exact j_ireturn E ⟨rfl, _, rfl, h⟩ (Nat.zero_le _) (Nat.zero_le _) dX12_number_124
set_option maxRecDepth 100000 in
def f_X12_number_b71  (Z : jZ) (Q : Int32 → jI → jL → Prop) (v0 : Nat) (v2 : Int32) (v3 : Int32) (v4 : Int32) (v5 : Int32) (I : jI) (L : jL) : Prop := ((¬ (I v0 26) = v4 → (f_X12_in v5 v2 v3 Z I L (fun r14 I11 L12 => ((¬ r14 = 0 → f_X12_number_b111  Z Q v0 v5 I11 L12) ∧ (r14 = 0 → (f_X12_fault v0 ((I11 v0 26) - (1 : Int32)) Z I11 L12 (fun I18 L19 => f_X12_number_b111  Z Q v0 v5 I18 L19))))))) ∧ ((I v0 26) = v4 → (f_X12_fault v0 (I v0 26) Z I L (fun I23 L24 => f_X12_number_b111  Z Q v0 v5 I23 L24))))
set_option maxHeartbeats 4000000 in
set_option maxRecDepth 100000 in
theorem m_X12_number_b71 {G : jG} {Z : jZ} {Q : Int32 → jI → jL → Prop} (E : jE G cX12_number RX12 w_X12_number 6 (some .int) { frames := 2, cells := 0, slots := 0, locals := 41 } (rtI Z Q)) (hZ : SH Z)  (v0 : Nat) (v2 : Int32) (v3 : Int32) (v4 : Int32) (v5 : Int32) (I : jI) (L : jL) (kv0 : jk Z v0 12) (h : f_X12_number_b71  Z Q v0 v2 v3 v4 v5 I L) : jJ G 6 71 [(0, .ref v0), (2, .int v2), (3, .int v3), (4, .int v4), (5, .int v5)] [] Z I L 0 0 := by
  refine j_aload_n E dX12_number_71 0 rfl ?_
  refine j_geti E 12 26 rfl rfl (by decide) (by decide) (iw iT_12) rfl rfl (tw W_689) kv0 dX12_number_72 ?_
  refine j_iload E dX12_number_75 3 rfl ?_
  refine j_icmp_ne E 91 dX12_number_77 (by decide) (fun c8 => ?_) (fun c8 => ?_)
  · have h := h.1 c8
    refine j_iload E dX12_number_91 4 rfl ?_
    refine j_iload_n E dX12_number_93 1 rfl ?_
    refine j_iload_n E dX12_number_94 2 rfl ?_
    refine j_callS E [.int v5, .int v2, .int v3] [] (c_X12_in (gL G) (gD G) (gY G) v5 v2 v3 Z I L _ hZ  h) (gwS W_680 W_681 W_679 W_678) rfl fy_X12_in ⟨by decide, by decide⟩ rfl rfl (Nat.le_of_ble_eq_true rfl) ⟨Nat.zero_le _, Nat.zero_le _⟩ dX12_number_95 (fun v9 Z10 I11 L12 q13 => ?_)
    obtain ⟨rfl, r14, rfl, zr14, h⟩ := q13
    show jJ G 6 98 [(0, .ref v0), (2, .int v2), (3, .int v3), (4, .int v4), (5, .int v5)] [.int r14] Z I11 L12 0 0
    refine j_if_ne E 111 dX12_number_98 (by decide) (fun c15 => ?_) (fun c15 => ?_)
    · have h := h.1 c15
      refine j_sub [0, 4] rfl ?_
      exact m_X12_number_b111 E hZ  v0 v5 I11 L12 kv0 h
    · have h := h.2 c15
      refine j_aload_n E dX12_number_101 0 rfl ?_
      refine j_aload_n E dX12_number_102 0 rfl ?_
      refine j_geti E 12 26 rfl rfl (by decide) (by decide) (iw iT_12) rfl rfl (tw W_689) kv0 dX12_number_103 ?_
      refine j_iconst E (v := 1) dX12_number_106 (by decide) ?_
      refine j_isub E dX12_number_107 ?_
      refine j_callV E [.int ((I11 v0 26) - (1 : Int32))] [] (c_X12_fault (gL G) (gD G) (gY G) v0 ((I11 v0 26) - (1 : Int32)) Z I11 L12 _ hZ kv0 h) (gwV W_704 W_705 W_706 W_679 W_703) rfl ⟨rfl, fy_X12_fault⟩ ⟨by decide, by decide⟩ (c := 12) rfl (by decide) kv0 rfl rfl (Nat.le_of_ble_eq_true rfl) ⟨Nat.zero_le _, Nat.zero_le _⟩ dX12_number_108 (fun v16 Z17 I18 L19 q20 => ?_)
      obtain ⟨rfl, rfl, h⟩ := q20
      show jJ G 6 111 [(0, .ref v0), (2, .int v2), (3, .int v3), (4, .int v4), (5, .int v5)] [] Z I18 L19 0 0
      refine j_sub [0, 4] rfl ?_
      exact m_X12_number_b111 E hZ  v0 v5 I18 L19 kv0 h
  · have h := h.2 c8
    refine j_aload_n E dX12_number_80 0 rfl ?_
    refine j_aload_n E dX12_number_81 0 rfl ?_
    refine j_geti E 12 26 rfl rfl (by decide) (by decide) (iw iT_12) rfl rfl (tw W_689) kv0 dX12_number_82 ?_
    refine j_callV E [.int (I v0 26)] [] (c_X12_fault (gL G) (gD G) (gY G) v0 (I v0 26) Z I L _ hZ kv0 h) (gwV W_704 W_705 W_706 W_679 W_703) rfl ⟨rfl, fy_X12_fault⟩ ⟨by decide, by decide⟩ (c := 12) rfl (by decide) kv0 rfl rfl (Nat.le_of_ble_eq_true rfl) ⟨Nat.zero_le _, Nat.zero_le _⟩ dX12_number_85 (fun v21 Z22 I23 L24 q25 => ?_)
    obtain ⟨rfl, rfl, h⟩ := q25
    show jJ G 6 88 [(0, .ref v0), (2, .int v2), (3, .int v3), (4, .int v4), (5, .int v5)] [] Z I23 L24 0 0
    refine j_goto E 111 dX12_number_88 (by decide) ?_
    refine j_sub [0, 4] rfl ?_
    exact m_X12_number_b111 E hZ  v0 v5 I23 L24 kv0 h
set_option maxRecDepth 100000 in
def f_X12_number_L18  (Z : jZ) (Q : Int32 → jI → jL → Prop) : Nat → Nat → Int32 → Int32 → Int32 → Int32 → Int32 → jI → jL → Prop
  | 0 => fun _ _ _ _ _ _ _ _ => False
  | n + 1 => fun v0 v1 v2 v3 v4 v5 I L => (((v4 + v1) ≤ (I v0 26) → f_X12_number_b71  Z Q v0 v2 v3 v4 v5 I L) ∧ (¬ ((v4 + v1) ≤ (I v0 26)) → (f_X12_here v0 Z I L (fun r32 I29 L30 => (f_X12_in r32 (48 : Int32) (57 : Int32) Z I29 L30 (fun r38 I35 L36 => ((r38 = 0 → f_X12_number_b71  Z Q v0 v2 v3 v4 v5 I35 L36) ∧ (¬ (r38 = 0) → (f_X12_here v0 Z I35 L36 (fun r45 I42 L43 => (∀ x46 : Int32, x46 = ((((10 : Int32) * v5) + r45) - (48 : Int32)) → (∀ I47 : jI, I47 = jpI I42 v0 26 ((I42 v0 26) + (1 : Int32)) → (f_X12_number_L18 Z Q n) v0 v1 v2 v3 v4 x46 I47 L43))))))))))))
set_option maxHeartbeats 4000000 in
set_option maxRecDepth 100000 in
theorem m_X12_number_L18 {G : jG} {Z : jZ} {Q : Int32 → jI → jL → Prop} (E : jE G cX12_number RX12 w_X12_number 6 (some .int) { frames := 2, cells := 0, slots := 0, locals := 41 } (rtI Z Q)) (hZ : SH Z)  : ∀ (n : Nat) (v0 : Nat) (v1 : Int32) (v2 : Int32) (v3 : Int32) (v4 : Int32) (v5 : Int32) (I : jI) (L : jL), jk Z v0 12 → f_X12_number_L18  Z Q n v0 v1 v2 v3 v4 v5 I L → jJ G 6 18 [(0, .ref v0), (1, .int v1), (2, .int v2), (3, .int v3), (4, .int v4), (5, .int v5)] [] Z I L 0 0 := by
  intro n
  induction n with
  | zero => intro v0 v1 v2 v3 v4 v5 I L _ h; exact h.elim
  | succ n ih =>
    intro v0 v1 v2 v3 v4 v5 I L kv0 h
    have h : (((v4 + v1) ≤ (I v0 26) → f_X12_number_b71  Z Q v0 v2 v3 v4 v5 I L) ∧ (¬ ((v4 + v1) ≤ (I v0 26)) → (f_X12_here v0 Z I L (fun r32 I29 L30 => (f_X12_in r32 (48 : Int32) (57 : Int32) Z I29 L30 (fun r38 I35 L36 => ((r38 = 0 → f_X12_number_b71  Z Q v0 v2 v3 v4 v5 I35 L36) ∧ (¬ (r38 = 0) → (f_X12_here v0 Z I35 L36 (fun r45 I42 L43 => (∀ x46 : Int32, x46 = ((((10 : Int32) * v5) + r45) - (48 : Int32)) → (∀ I47 : jI, I47 = jpI I42 v0 26 ((I42 v0 26) + (1 : Int32)) → (f_X12_number_L18 Z Q n) v0 v1 v2 v3 v4 x46 I47 L43)))))))))))) := h
    obtain ⟨K18, eK18⟩ : ∃ K : Nat → Int32 → Int32 → Int32 → Int32 → Int32 → jI → jL → Prop, K = f_X12_number_L18  Z Q n := ⟨_, rfl⟩
    have hK18 := ih
    clear eK18 K18
    generalize f_X12_number_L18  Z Q n = K18 at hK18 h
    refine j_aload_n E dX12_number_18 0 rfl ?_
    refine j_geti E 12 26 rfl rfl (by decide) (by decide) (iw iT_12) rfl rfl (tw W_689) kv0 dX12_number_19 ?_
    refine j_iload E dX12_number_22 4 rfl ?_
    refine j_iload_n E dX12_number_24 1 rfl ?_
    refine j_iadd E dX12_number_25 ?_
    refine j_icmp_ge E 71 dX12_number_26 (by decide) (fun c26 => ?_) (fun c26 => ?_)
    · have h := h.1 c26
      refine j_sub [0, 2, 3, 4, 5] rfl ?_
      exact m_X12_number_b71 E hZ  v0 v2 v3 v4 v5 I L kv0 h
    · have h := h.2 c26
      refine j_aload_n E dX12_number_29 0 rfl ?_
      refine j_callV E [] [] (c_X12_here (gL G) (gD G) (gY G) v0 Z I L _ hZ kv0 h) (gwV W_696 W_697 W_698 W_679 W_695) rfl ⟨rfl, fy_X12_here⟩ ⟨by decide, by decide⟩ (c := 12) rfl (by decide) kv0 rfl rfl (Nat.le_of_ble_eq_true rfl) ⟨Nat.zero_le _, Nat.zero_le _⟩ dX12_number_30 (fun v27 Z28 I29 L30 q31 => ?_)
      obtain ⟨rfl, r32, rfl, h⟩ := q31
      show jJ G 6 33 [(0, .ref v0), (1, .int v1), (2, .int v2), (3, .int v3), (4, .int v4), (5, .int v5)] [.int r32] Z I29 L30 0 0
      refine j_bipush E (v := 48) dX12_number_33 (by decide) ?_
      refine j_bipush E (v := 57) dX12_number_35 (by decide) ?_
      refine j_callS E [.int r32, .int (48 : Int32), .int (57 : Int32)] [] (c_X12_in (gL G) (gD G) (gY G) r32 (48 : Int32) (57 : Int32) Z I29 L30 _ hZ  h) (gwS W_680 W_681 W_679 W_678) rfl fy_X12_in ⟨by decide, by decide⟩ rfl rfl (Nat.le_of_ble_eq_true rfl) ⟨Nat.zero_le _, Nat.zero_le _⟩ dX12_number_37 (fun v33 Z34 I35 L36 q37 => ?_)
      obtain ⟨rfl, r38, rfl, zr38, h⟩ := q37
      show jJ G 6 40 [(0, .ref v0), (1, .int v1), (2, .int v2), (3, .int v3), (4, .int v4), (5, .int v5)] [.int r38] Z I35 L36 0 0
      refine j_if_eq E 71 dX12_number_40 (by decide) (fun c39 => ?_) (fun c39 => ?_)
      · have h := h.1 c39
        refine j_sub [0, 2, 3, 4, 5] rfl ?_
        exact m_X12_number_b71 E hZ  v0 v2 v3 v4 v5 I35 L36 kv0 h
      · have h := h.2 c39
        refine j_bipush E (v := 10) dX12_number_43 (by decide) ?_
        refine j_iload E dX12_number_45 5 rfl ?_
        refine j_imul E dX12_number_47 ?_
        refine j_aload_n E dX12_number_48 0 rfl ?_
        refine j_callV E [] [.int ((10 : Int32) * v5)] (c_X12_here (gL G) (gD G) (gY G) v0 Z I35 L36 _ hZ kv0 h) (gwV W_696 W_697 W_698 W_679 W_695) rfl ⟨rfl, fy_X12_here⟩ ⟨by decide, by decide⟩ (c := 12) rfl (by decide) kv0 rfl rfl (Nat.le_of_ble_eq_true rfl) ⟨Nat.zero_le _, Nat.zero_le _⟩ dX12_number_49 (fun v40 Z41 I42 L43 q44 => ?_)
        obtain ⟨rfl, r45, rfl, h⟩ := q44
        show jJ G 6 52 [(0, .ref v0), (1, .int v1), (2, .int v2), (3, .int v3), (4, .int v4), (5, .int v5)] [.int r45, .int ((10 : Int32) * v5)] Z I42 L43 0 0
        refine j_iadd E dX12_number_52 ?_
        refine j_bipush E (v := 48) dX12_number_53 (by decide) ?_
        refine j_isub E dX12_number_55 ?_
        refine j_topi (fun x46 ex46 => ?_)
        have h := h x46 ex46
        refine j_istore E 5 [(5, .int x46), (0, .ref v0), (1, .int v1), (2, .int v2), (3, .int v3), (4, .int v4)] dX12_number_56 (by decide) rfl ?_
        refine j_aload_n E dX12_number_58 1 rfl ?_
        refine j_dup E dX12_number_59 rfl ?_
        refine j_geti E 12 26 rfl rfl (by decide) (by decide) (iw iT_12) rfl rfl (tw W_689) kv0 dX12_number_60 ?_
        refine j_iconst E (v := 1) dX12_number_63 (by decide) ?_
        refine j_iadd E dX12_number_64 ?_
        refine j_puti E 12 26 rfl rfl (by decide) (by decide) (iw iT_12) tyX12_ok nmX12 rfl rfl (tw W_689) rfl rfl rfl kv0 dX12_number_65 ?_
        refine j_nmI (fun I47 eI47 => ?_)
        have h := h I47 eI47
        refine j_goto E 18 dX12_number_68 (by decide) ?_
        refine j_sub [1, 2, 3, 4, 5, 0] rfl ?_
        exact hK18 v0 v1 v2 v3 v4 x46 I47 L43 kv0 h
set_option maxRecDepth 100000 in
def f_X12_number (v0 : Nat) (v1 : Int32) (v2 : Int32) (v3 : Int32) (Z : jZ) (I : jI) (L : jL) (Q : Int32 → jI → jL → Prop) : Prop := (f_X12_fine v0 Z I L (fun r53 I50 L51 => ((¬ r53 = 0 → (∀ x55 : Int32, x55 = (I50 v0 26) → (∃ m18 : Nat, f_X12_number_L18  Z Q m18 v0 v1 v2 v3 x55 (0 : Int32) I50 L51))) ∧ (r53 = 0 → Q (0 : Int32) I50 L51))))
set_option maxHeartbeats 4000000 in
set_option maxRecDepth 100000 in
theorem c_X12_number (l : Launch) (D : va_G) (cy : jC) (v0 : Nat) (v1 : Int32) (v2 : Int32) (v3 : Int32) (Z : jZ) (I : jI) (L : jL) (Q : Int32 → jI → jL → Prop) (hZ : SH Z) (kv0 : jk Z v0 12) (h : f_X12_number v0 v1 v2 v3 Z I L Q) : jCt l yX12_number w_X12_number { frames := 2, cells := 0, slots := 0, locals := 41 } D cy [.ref v0, .int v1, .int v2, .int v3] Z I L (rtI Z Q) := by
  refine jCt_of (cc := cX12_number) (maxL := 6) (ret := (some .int)) (by decide +kernel) rfl (Nat.le_of_ble_eq_true rfl) ?_
  intro G eD eY eL E
  subst eD; subst eY; subst eL
  have E : jE G cX12_number RX12 w_X12_number 6 (some .int) { frames := 2, cells := 0, slots := 0, locals := 41 } (rtI Z Q) := E
  show jJ G 6 0 [(0, .ref v0), (1, .int v1), (2, .int v2), (3, .int v3)] [] Z I L 0 0
  refine j_aload_n E dX12_number_0 0 rfl ?_
  refine j_callV E [] [] (c_X12_fine (gL G) (gD G) (gY G) v0 Z I L _ hZ kv0 h) (gwV W_692 W_693 W_694 W_679 W_691) rfl ⟨rfl, fy_X12_fine⟩ ⟨by decide, by decide⟩ (c := 12) rfl (by decide) kv0 rfl rfl (Nat.le_of_ble_eq_true rfl) ⟨Nat.zero_le _, Nat.zero_le _⟩ dX12_number_1 (fun v48 Z49 I50 L51 q52 => ?_)
  obtain ⟨rfl, r53, rfl, zr53, h⟩ := q52
  show jJ G 6 4 [(0, .ref v0), (1, .int v1), (2, .int v2), (3, .int v3)] [.int r53] Z I50 L51 0 0
  refine j_if_ne E 9 dX12_number_4 (by decide) (fun c54 => ?_) (fun c54 => ?_)
  · have h := h.1 c54
    refine j_aload_n E dX12_number_9 0 rfl ?_
    refine j_geti E 12 26 rfl rfl (by decide) (by decide) (iw iT_12) rfl rfl (tw W_689) kv0 dX12_number_10 ?_
    refine j_topi (fun x55 ex55 => ?_)
    have h := h x55 ex55
    refine j_istore E 4 [(4, .int x55), (0, .ref v0), (1, .int v1), (2, .int v2), (3, .int v3)] dX12_number_13 (by decide) rfl ?_
    refine j_iconst E (v := 0) dX12_number_15 (by decide) ?_
    refine j_istore E 5 [(5, .int (0 : Int32)), (4, .int x55), (0, .ref v0), (1, .int v1), (2, .int v2), (3, .int v3)] dX12_number_16 (by decide) rfl ?_
    obtain ⟨n56, h⟩ := h
    refine j_sub [2, 3, 4, 5, 1, 0] rfl ?_
    exact m_X12_number_L18 E hZ  n56 v0 v1 v2 v3 x55 (0 : Int32) I50 L51 kv0 h
  · have h := h.2 c54
    refine j_iconst E (v := 0) dX12_number_7 (by decide) ?_
    exact j_ireturn E ⟨rfl, _, rfl, h⟩ (Nat.zero_le _) (Nat.zero_le _) dX12_number_8
set_option maxRecDepth 100000 in
def f_X12_readLine_L109  (Z : jZ) (Q : Int32 → jI → jL → Prop) : Nat → Nat → Int32 → Int32 → Int32 → Int32 → Int32 → Int32 → Int32 → Int32 → jI → jL → Prop
  | 0 => fun _ _ _ _ _ _ _ _ _ _ _ => False
  | n + 1 => fun v0 v1 v2 v3 v4 v5 v6 v7 v8 I L => ((v7 ≤ v8 → Q (v1 + v7) I L) ∧ (¬ (v7 ≤ v8) → (∀ x2 : Int32, x2 = ((5 : Int32) * (v1 + v8)) → (∀ b3 : Nat, jr Z v0 28 = some b3 → (vp_in x2 120 ∧ (∀ I5 : jI, I5 = jpI I b3 x2.toNatClampNeg v2 → (∀ b6 : Nat, jr Z v0 28 = some b6 → (vp_in (x2 + (1 : Int32)) 120 ∧ (∀ I8 : jI, I8 = jpI I5 b6 (x2 + (1 : Int32)).toNatClampNeg v3 → (∀ b9 : Nat, jr Z v0 28 = some b9 → (vp_in (x2 + (2 : Int32)) 120 ∧ (∀ I11 : jI, I11 = jpI I8 b9 (x2 + (2 : Int32)).toNatClampNeg v4 → (∀ b12 : Nat, jr Z v0 28 = some b12 → (vp_in (x2 + (3 : Int32)) 120 ∧ (∀ I14 : jI, I14 = jpI I11 b12 (x2 + (3 : Int32)).toNatClampNeg v5 → (∀ b15 : Nat, jr Z v0 28 = some b15 → (vp_in (x2 + (4 : Int32)) 120 ∧ (∀ I17 : jI, I17 = jpI I14 b15 (x2 + (4 : Int32)).toNatClampNeg v6 → (∀ x18 : Int32, x18 = v8 + 1 → (f_X12_readLine_L109 Z Q n) v0 v1 v2 v3 v4 v5 v6 v7 x18 I17 L)))))))))))))))))))
set_option maxHeartbeats 4000000 in
set_option maxRecDepth 100000 in
theorem m_X12_readLine_L109 {G : jG} {Z : jZ} {Q : Int32 → jI → jL → Prop} (E : jE G cX12_readLine RX12 w_X12_readLine 10 (some .int) { frames := 3, cells := 0, slots := 0, locals := 66 } (rtI Z Q)) (hZ : SH Z)  : ∀ (n : Nat) (v0 : Nat) (v1 : Int32) (v2 : Int32) (v3 : Int32) (v4 : Int32) (v5 : Int32) (v6 : Int32) (v7 : Int32) (v8 : Int32) (I : jI) (L : jL), jk Z v0 12 → f_X12_readLine_L109  Z Q n v0 v1 v2 v3 v4 v5 v6 v7 v8 I L → jJ G 10 109 [(0, .ref v0), (1, .int v1), (2, .int v2), (3, .int v3), (4, .int v4), (5, .int v5), (6, .int v6), (7, .int v7), (8, .int v8)] [] Z I L 0 0 := by
  intro n
  induction n with
  | zero => intro v0 v1 v2 v3 v4 v5 v6 v7 v8 I L _ h; exact h.elim
  | succ n ih =>
    intro v0 v1 v2 v3 v4 v5 v6 v7 v8 I L kv0 h
    have h : ((v7 ≤ v8 → Q (v1 + v7) I L) ∧ (¬ (v7 ≤ v8) → (∀ x2 : Int32, x2 = ((5 : Int32) * (v1 + v8)) → (∀ b3 : Nat, jr Z v0 28 = some b3 → (vp_in x2 120 ∧ (∀ I5 : jI, I5 = jpI I b3 x2.toNatClampNeg v2 → (∀ b6 : Nat, jr Z v0 28 = some b6 → (vp_in (x2 + (1 : Int32)) 120 ∧ (∀ I8 : jI, I8 = jpI I5 b6 (x2 + (1 : Int32)).toNatClampNeg v3 → (∀ b9 : Nat, jr Z v0 28 = some b9 → (vp_in (x2 + (2 : Int32)) 120 ∧ (∀ I11 : jI, I11 = jpI I8 b9 (x2 + (2 : Int32)).toNatClampNeg v4 → (∀ b12 : Nat, jr Z v0 28 = some b12 → (vp_in (x2 + (3 : Int32)) 120 ∧ (∀ I14 : jI, I14 = jpI I11 b12 (x2 + (3 : Int32)).toNatClampNeg v5 → (∀ b15 : Nat, jr Z v0 28 = some b15 → (vp_in (x2 + (4 : Int32)) 120 ∧ (∀ I17 : jI, I17 = jpI I14 b15 (x2 + (4 : Int32)).toNatClampNeg v6 → (∀ x18 : Int32, x18 = v8 + 1 → (f_X12_readLine_L109 Z Q n) v0 v1 v2 v3 v4 v5 v6 v7 x18 I17 L))))))))))))))))))) := h
    obtain ⟨K109, eK109⟩ : ∃ K : Nat → Int32 → Int32 → Int32 → Int32 → Int32 → Int32 → Int32 → Int32 → jI → jL → Prop, K = f_X12_readLine_L109  Z Q n := ⟨_, rfl⟩
    have hK109 := ih
    clear eK109 K109
    generalize f_X12_readLine_L109  Z Q n = K109 at hK109 h
    refine j_iload E dX12_readLine_109 8 rfl ?_
    refine j_iload E dX12_readLine_111 7 rfl ?_
    refine j_icmp_ge E 181 dX12_readLine_113 (by decide) (fun c1 => ?_) (fun c1 => ?_)
    · have h := h.1 c1
      refine j_iload_n E dX12_readLine_181 1 rfl ?_
      refine j_iload E dX12_readLine_182 7 rfl ?_
      refine j_iadd E dX12_readLine_184 ?_
      exact j_ireturn E ⟨rfl, _, rfl, h⟩ (Nat.zero_le _) (Nat.zero_le _) dX12_readLine_185
    · have h := h.2 c1
      refine j_iconst E (v := 5) dX12_readLine_116 (by decide) ?_
      refine j_iload_n E dX12_readLine_117 1 rfl ?_
      refine j_iload E dX12_readLine_118 8 rfl ?_
      refine j_iadd E dX12_readLine_120 ?_
      refine j_imul E dX12_readLine_121 ?_
      refine j_topi (fun x2 ex2 => ?_)
      have h := h x2 ex2
      refine j_istore E 9 [(9, .int x2), (0, .ref v0), (1, .int v1), (2, .int v2), (3, .int v3), (4, .int v4), (5, .int v5), (6, .int v6), (7, .int v7), (8, .int v8)] dX12_readLine_122 (by decide) rfl ?_
      refine j_aload_n E dX12_readLine_124 1 rfl ?_
      obtain ⟨b3, eb3, kb3, lb3⟩ := sh_f hZ kv0 (j := 28) (k := 14) (m := 120) rfl
      have h := h b3 eb3
      refine j_getr E 12 28 rfl rfl (by decide) (by decide) (iw iT_12) rfl rfl (tw W_707) kv0 eb3 dX12_readLine_125 ?_
      refine j_iload E dX12_readLine_128 0 rfl ?_
      refine j_iload_n E dX12_readLine_130 3 rfl ?_
      obtain ⟨o4, h⟩ := h
      refine j_iast E kb3 (by rw [lb3]; exact o4) dX12_readLine_131 ?_
      refine j_nmI (fun I5 eI5 => ?_)
      have h := h I5 eI5
      refine j_aload_n E dX12_readLine_132 1 rfl ?_
      obtain ⟨b6, eb6, kb6, lb6⟩ := sh_f hZ kv0 (j := 28) (k := 14) (m := 120) rfl
      have h := h b6 eb6
      refine j_getr E 12 28 rfl rfl (by decide) (by decide) (iw iT_12) rfl rfl (tw W_707) kv0 eb6 dX12_readLine_133 ?_
      refine j_iload E dX12_readLine_136 0 rfl ?_
      refine j_iconst E (v := 1) dX12_readLine_138 (by decide) ?_
      refine j_iadd E dX12_readLine_139 ?_
      refine j_iload_n E dX12_readLine_140 4 rfl ?_
      obtain ⟨o7, h⟩ := h
      refine j_iast E kb6 (by rw [lb6]; exact o7) dX12_readLine_141 ?_
      refine j_nmI (fun I8 eI8 => ?_)
      have h := h I8 eI8
      refine j_aload_n E dX12_readLine_142 1 rfl ?_
      obtain ⟨b9, eb9, kb9, lb9⟩ := sh_f hZ kv0 (j := 28) (k := 14) (m := 120) rfl
      have h := h b9 eb9
      refine j_getr E 12 28 rfl rfl (by decide) (by decide) (iw iT_12) rfl rfl (tw W_707) kv0 eb9 dX12_readLine_143 ?_
      refine j_iload E dX12_readLine_146 0 rfl ?_
      refine j_iconst E (v := 2) dX12_readLine_148 (by decide) ?_
      refine j_iadd E dX12_readLine_149 ?_
      refine j_iload E dX12_readLine_150 5 rfl ?_
      obtain ⟨o10, h⟩ := h
      refine j_iast E kb9 (by rw [lb9]; exact o10) dX12_readLine_152 ?_
      refine j_nmI (fun I11 eI11 => ?_)
      have h := h I11 eI11
      refine j_aload_n E dX12_readLine_153 1 rfl ?_
      obtain ⟨b12, eb12, kb12, lb12⟩ := sh_f hZ kv0 (j := 28) (k := 14) (m := 120) rfl
      have h := h b12 eb12
      refine j_getr E 12 28 rfl rfl (by decide) (by decide) (iw iT_12) rfl rfl (tw W_707) kv0 eb12 dX12_readLine_154 ?_
      refine j_iload E dX12_readLine_157 0 rfl ?_
      refine j_iconst E (v := 3) dX12_readLine_159 (by decide) ?_
      refine j_iadd E dX12_readLine_160 ?_
      refine j_iload E dX12_readLine_161 6 rfl ?_
      obtain ⟨o13, h⟩ := h
      refine j_iast E kb12 (by rw [lb12]; exact o13) dX12_readLine_163 ?_
      refine j_nmI (fun I14 eI14 => ?_)
      have h := h I14 eI14
      refine j_aload_n E dX12_readLine_164 1 rfl ?_
      obtain ⟨b15, eb15, kb15, lb15⟩ := sh_f hZ kv0 (j := 28) (k := 14) (m := 120) rfl
      have h := h b15 eb15
      refine j_getr E 12 28 rfl rfl (by decide) (by decide) (iw iT_12) rfl rfl (tw W_707) kv0 eb15 dX12_readLine_165 ?_
      refine j_iload E dX12_readLine_168 0 rfl ?_
      refine j_iconst E (v := 4) dX12_readLine_170 (by decide) ?_
      refine j_iadd E dX12_readLine_171 ?_
      refine j_iload E dX12_readLine_172 7 rfl ?_
      obtain ⟨o16, h⟩ := h
      refine j_iast E kb15 (by rw [lb15]; exact o16) dX12_readLine_174 ?_
      refine j_nmI (fun I17 eI17 => ?_)
      have h := h I17 eI17
      obtain ⟨x18, ex18⟩ : ∃ y : Int32, y = v8 + 1 := ⟨_, rfl⟩
      have h := h x18 ex18
      refine j_iinc E x18 [(8, .int x18), (9, .int x2), (0, .ref v0), (1, .int v1), (2, .int v2), (3, .int v3), (4, .int v4), (5, .int v5), (6, .int v6), (7, .int v7)] dX12_readLine_175 9 rfl (by rw [ex18]; rfl) (by decide) rfl ?_
      refine j_goto E 109 dX12_readLine_178 (by decide) ?_
      refine j_sub [2, 3, 4, 5, 6, 7, 8, 9, 0] rfl ?_
      exact hK109 v0 v1 v2 v3 v4 v5 v6 v7 x18 I17 L kv0 h
set_option maxRecDepth 100000 in
def f_X12_readLine_b95  (Z : jZ) (Q : Int32 → jI → jL → Prop) (v0 : Nat) (v1 : Int32) (v2 : Int32) (v3 : Int32) (v4 : Int32) (v5 : Int32) (v6 : Int32) (s0 : Int32) (I : jI) (L : jL) : Prop := (f_X12_fine v0 Z I L (fun r24 I21 L22 => ((¬ r24 = 0 → (∃ m109 : Nat, f_X12_readLine_L109  Z Q m109 v0 v1 v2 v3 v4 v5 v6 s0 (0 : Int32) I21 L22)) ∧ (r24 = 0 → Q v1 I21 L22))))
set_option maxHeartbeats 4000000 in
set_option maxRecDepth 100000 in
theorem m_X12_readLine_b95 {G : jG} {Z : jZ} {Q : Int32 → jI → jL → Prop} (E : jE G cX12_readLine RX12 w_X12_readLine 10 (some .int) { frames := 3, cells := 0, slots := 0, locals := 66 } (rtI Z Q)) (hZ : SH Z)  (v0 : Nat) (v1 : Int32) (v2 : Int32) (v3 : Int32) (v4 : Int32) (v5 : Int32) (v6 : Int32) (s0 : Int32) (I : jI) (L : jL) (kv0 : jk Z v0 12) (h : f_X12_readLine_b95  Z Q v0 v1 v2 v3 v4 v5 v6 s0 I L) : jJ G 10 95 [(0, .ref v0), (1, .int v1), (2, .int v2), (3, .int v3), (4, .int v4), (5, .int v5), (6, .int v6)] [.int s0] Z I L 0 0 := by
  refine j_istore E 7 [(7, .int s0), (0, .ref v0), (1, .int v1), (2, .int v2), (3, .int v3), (4, .int v4), (5, .int v5), (6, .int v6)] dX12_readLine_95 (by decide) rfl ?_
  refine j_aload_n E dX12_readLine_97 1 rfl ?_
  refine j_callV E [] [] (c_X12_fine (gL G) (gD G) (gY G) v0 Z I L _ hZ kv0 h) (gwV W_692 W_693 W_694 W_679 W_691) rfl ⟨rfl, fy_X12_fine⟩ ⟨by decide, by decide⟩ (c := 12) rfl (by decide) kv0 rfl rfl (Nat.le_of_ble_eq_true rfl) ⟨Nat.zero_le _, Nat.zero_le _⟩ dX12_readLine_98 (fun v19 Z20 I21 L22 q23 => ?_)
  obtain ⟨rfl, r24, rfl, zr24, h⟩ := q23
  show jJ G 10 101 [(7, .int s0), (0, .ref v0), (1, .int v1), (2, .int v2), (3, .int v3), (4, .int v4), (5, .int v5), (6, .int v6)] [.int r24] Z I21 L22 0 0
  refine j_if_ne E 106 dX12_readLine_101 (by decide) (fun c25 => ?_) (fun c25 => ?_)
  · have h := h.1 c25
    refine j_iconst E (v := 0) dX12_readLine_106 (by decide) ?_
    refine j_istore E 8 [(8, .int (0 : Int32)), (7, .int s0), (0, .ref v0), (1, .int v1), (2, .int v2), (3, .int v3), (4, .int v4), (5, .int v5), (6, .int v6)] dX12_readLine_107 (by decide) rfl ?_
    obtain ⟨n26, h⟩ := h
    refine j_sub [2, 3, 4, 5, 6, 7, 8, 1, 0] rfl ?_
    exact m_X12_readLine_L109 E hZ  n26 v0 v1 v2 v3 v4 v5 v6 s0 (0 : Int32) I21 L22 kv0 h
  · have h := h.2 c25
    refine j_iload_n E dX12_readLine_104 2 rfl ?_
    exact j_ireturn E ⟨rfl, _, rfl, h⟩ (Nat.zero_le _) (Nat.zero_le _) dX12_readLine_105
set_option maxRecDepth 100000 in
def f_X12_readLine_b70  (Z : jZ) (Q : Int32 → jI → jL → Prop) (v0 : Nat) (v1 : Int32) (v2 : Int32) (v3 : Int32) (v4 : Int32) (v5 : Int32) (s0 : Int32) (I : jI) (L : jL) : Prop := (f_X12_passes v0 (42 : Int32) Z I L (fun r32 I29 L30 => ((r32 = 0 → f_X12_readLine_b95  Z Q v0 v1 v2 v3 v4 v5 s0 (1 : Int32) I29 L30) ∧ (¬ (r32 = 0) → (f_X12_number v0 (2 : Int32) (1 : Int32) ((24 : Int32) - v1) Z I29 L30 (fun r39 I36 L37 => f_X12_readLine_b95  Z Q v0 v1 v2 v3 v4 v5 s0 r39 I36 L37))))))
set_option maxHeartbeats 4000000 in
set_option maxRecDepth 100000 in
theorem m_X12_readLine_b70 {G : jG} {Z : jZ} {Q : Int32 → jI → jL → Prop} (E : jE G cX12_readLine RX12 w_X12_readLine 10 (some .int) { frames := 3, cells := 0, slots := 0, locals := 66 } (rtI Z Q)) (hZ : SH Z)  (v0 : Nat) (v1 : Int32) (v2 : Int32) (v3 : Int32) (v4 : Int32) (v5 : Int32) (s0 : Int32) (I : jI) (L : jL) (kv0 : jk Z v0 12) (h : f_X12_readLine_b70  Z Q v0 v1 v2 v3 v4 v5 s0 I L) : jJ G 10 70 [(0, .ref v0), (1, .int v1), (2, .int v2), (3, .int v3), (4, .int v4), (5, .int v5)] [.int s0] Z I L 0 0 := by
  refine j_istore E 6 [(6, .int s0), (0, .ref v0), (1, .int v1), (2, .int v2), (3, .int v3), (4, .int v4), (5, .int v5)] dX12_readLine_70 (by decide) rfl ?_
  refine j_aload_n E dX12_readLine_72 1 rfl ?_
  refine j_bipush E (v := 42) dX12_readLine_73 (by decide) ?_
  refine j_callV E [.int (42 : Int32)] [] (c_X12_passes (gL G) (gD G) (gY G) v0 (42 : Int32) Z I L _ hZ kv0 h) (gwV W_700 W_701 W_702 W_679 W_699) rfl ⟨rfl, fy_X12_passes⟩ ⟨by decide, by decide⟩ (c := 12) rfl (by decide) kv0 rfl rfl (Nat.le_of_ble_eq_true rfl) ⟨Nat.zero_le _, Nat.zero_le _⟩ dX12_readLine_75 (fun v27 Z28 I29 L30 q31 => ?_)
  obtain ⟨rfl, r32, rfl, zr32, h⟩ := q31
  show jJ G 10 78 [(6, .int s0), (0, .ref v0), (1, .int v1), (2, .int v2), (3, .int v3), (4, .int v4), (5, .int v5)] [.int r32] Z I29 L30 0 0
  refine j_if_eq E 94 dX12_readLine_78 (by decide) (fun c33 => ?_) (fun c33 => ?_)
  · have h := h.1 c33
    refine j_iconst E (v := 1) dX12_readLine_94 (by decide) ?_
    refine j_sub [1, 2, 3, 4, 5, 6, 0] rfl ?_
    exact m_X12_readLine_b95 E hZ  v0 v1 v2 v3 v4 v5 s0 (1 : Int32) I29 L30 kv0 h
  · have h := h.2 c33
    refine j_aload_n E dX12_readLine_81 1 rfl ?_
    refine j_iconst E (v := 2) dX12_readLine_82 (by decide) ?_
    refine j_iconst E (v := 1) dX12_readLine_83 (by decide) ?_
    refine j_bipush E (v := 24) dX12_readLine_84 (by decide) ?_
    refine j_iload_n E dX12_readLine_86 2 rfl ?_
    refine j_isub E dX12_readLine_87 ?_
    refine j_callV E [.int (2 : Int32), .int (1 : Int32), .int ((24 : Int32) - v1)] [] (c_X12_number (gL G) (gD G) (gY G) v0 (2 : Int32) (1 : Int32) ((24 : Int32) - v1) Z I29 L30 _ hZ kv0 h) (gwV W_709 W_710 W_711 W_679 W_708) rfl ⟨rfl, fy_X12_number⟩ ⟨by decide, by decide⟩ (c := 12) rfl (by decide) kv0 rfl rfl (Nat.le_of_ble_eq_true rfl) ⟨Nat.zero_le _, Nat.zero_le _⟩ dX12_readLine_88 (fun v34 Z35 I36 L37 q38 => ?_)
    obtain ⟨rfl, r39, rfl, h⟩ := q38
    show jJ G 10 91 [(6, .int s0), (0, .ref v0), (1, .int v1), (2, .int v2), (3, .int v3), (4, .int v4), (5, .int v5)] [.int r39] Z I36 L37 0 0
    refine j_goto E 95 dX12_readLine_91 (by decide) ?_
    refine j_sub [1, 2, 3, 4, 5, 6, 0] rfl ?_
    exact m_X12_readLine_b95 E hZ  v0 v1 v2 v3 v4 v5 s0 r39 I36 L37 kv0 h
set_option maxRecDepth 100000 in
def f_X12_readLine (v0 : Nat) (v1 : Int32) (Z : jZ) (I : jI) (L : jL) (Q : Int32 → jI → jL → Prop) : Prop := (f_X12_number v0 (2 : Int32) (1 : Int32) (30 : Int32) Z I L (fun r45 I42 L43 => (f_X12_need v0 (44 : Int32) Z I42 L43 (fun I48 L49 => (f_X12_number v0 (2 : Int32) (0 : Int32) (9 : Int32) Z I48 L49 (fun r56 I53 L54 => (f_X12_need v0 (44 : Int32) Z I53 L54 (fun I59 L60 => (f_X12_number v0 (2 : Int32) (0 : Int32) (20 : Int32) Z I59 L60 (fun r67 I64 L65 => (f_X12_need v0 (64 : Int32) Z I64 L65 (fun I70 L71 => (f_X12_number v0 (1 : Int32) (0 : Int32) (7 : Int32) Z I70 L71 (fun r78 I75 L76 => (f_X12_passes v0 (119 : Int32) Z I75 L76 (fun r84 I81 L82 => ((r84 = 0 → f_X12_readLine_b70  Z Q v0 v1 r45 r56 r67 r78 (0 : Int32) I81 L82) ∧ (¬ (r84 = 0) → f_X12_readLine_b70  Z Q v0 v1 r45 r56 r67 r78 (1 : Int32) I81 L82))))))))))))))))))
set_option maxHeartbeats 4000000 in
set_option maxRecDepth 100000 in
theorem c_X12_readLine (l : Launch) (D : va_G) (cy : jC) (v0 : Nat) (v1 : Int32) (Z : jZ) (I : jI) (L : jL) (Q : Int32 → jI → jL → Prop) (hZ : SH Z) (kv0 : jk Z v0 12) (h : f_X12_readLine v0 v1 Z I L Q) : jCt l yX12_readLine w_X12_readLine { frames := 3, cells := 0, slots := 0, locals := 66 } D cy [.ref v0, .int v1] Z I L (rtI Z Q) := by
  refine jCt_of (cc := cX12_readLine) (maxL := 10) (ret := (some .int)) (by decide +kernel) rfl (Nat.le_of_ble_eq_true rfl) ?_
  intro G eD eY eL E
  subst eD; subst eY; subst eL
  have E : jE G cX12_readLine RX12 w_X12_readLine 10 (some .int) { frames := 3, cells := 0, slots := 0, locals := 66 } (rtI Z Q) := E
  show jJ G 10 0 [(0, .ref v0), (1, .int v1)] [] Z I L 0 0
  refine j_aload_n E dX12_readLine_0 0 rfl ?_
  refine j_iconst E (v := 2) dX12_readLine_1 (by decide) ?_
  refine j_iconst E (v := 1) dX12_readLine_2 (by decide) ?_
  refine j_bipush E (v := 30) dX12_readLine_3 (by decide) ?_
  refine j_callV E [.int (2 : Int32), .int (1 : Int32), .int (30 : Int32)] [] (c_X12_number (gL G) (gD G) (gY G) v0 (2 : Int32) (1 : Int32) (30 : Int32) Z I L _ hZ kv0 h) (gwV W_709 W_710 W_711 W_679 W_708) rfl ⟨rfl, fy_X12_number⟩ ⟨by decide, by decide⟩ (c := 12) rfl (by decide) kv0 rfl rfl (Nat.le_of_ble_eq_true rfl) ⟨Nat.zero_le _, Nat.zero_le _⟩ dX12_readLine_5 (fun v40 Z41 I42 L43 q44 => ?_)
  obtain ⟨rfl, r45, rfl, h⟩ := q44
  show jJ G 10 8 [(0, .ref v0), (1, .int v1)] [.int r45] Z I42 L43 0 0
  refine j_istore_n E 2 [(2, .int r45), (0, .ref v0), (1, .int v1)] dX12_readLine_8 rfl (by decide) rfl ?_
  refine j_aload_n E dX12_readLine_9 1 rfl ?_
  refine j_bipush E (v := 44) dX12_readLine_10 (by decide) ?_
  refine j_callV E [.int (44 : Int32)] [] (c_X12_need (gL G) (gD G) (gY G) v0 (44 : Int32) Z I42 L43 _ hZ kv0 h) (gwV W_713 W_714 W_715 W_679 W_712) rfl ⟨rfl, fy_X12_need⟩ ⟨by decide, by decide⟩ (c := 12) rfl (by decide) kv0 rfl rfl (Nat.le_of_ble_eq_true rfl) ⟨Nat.zero_le _, Nat.zero_le _⟩ dX12_readLine_12 (fun v46 Z47 I48 L49 q50 => ?_)
  obtain ⟨rfl, rfl, h⟩ := q50
  show jJ G 10 15 [(2, .int r45), (0, .ref v0), (1, .int v1)] [] Z I48 L49 0 0
  refine j_aload_n E dX12_readLine_15 1 rfl ?_
  refine j_iconst E (v := 2) dX12_readLine_16 (by decide) ?_
  refine j_iconst E (v := 0) dX12_readLine_17 (by decide) ?_
  refine j_bipush E (v := 9) dX12_readLine_18 (by decide) ?_
  refine j_callV E [.int (2 : Int32), .int (0 : Int32), .int (9 : Int32)] [] (c_X12_number (gL G) (gD G) (gY G) v0 (2 : Int32) (0 : Int32) (9 : Int32) Z I48 L49 _ hZ kv0 h) (gwV W_709 W_710 W_711 W_679 W_708) rfl ⟨rfl, fy_X12_number⟩ ⟨by decide, by decide⟩ (c := 12) rfl (by decide) kv0 rfl rfl (Nat.le_of_ble_eq_true rfl) ⟨Nat.zero_le _, Nat.zero_le _⟩ dX12_readLine_20 (fun v51 Z52 I53 L54 q55 => ?_)
  obtain ⟨rfl, r56, rfl, h⟩ := q55
  show jJ G 10 23 [(2, .int r45), (0, .ref v0), (1, .int v1)] [.int r56] Z I53 L54 0 0
  refine j_istore_n E 3 [(3, .int r56), (2, .int r45), (0, .ref v0), (1, .int v1)] dX12_readLine_23 rfl (by decide) rfl ?_
  refine j_aload_n E dX12_readLine_24 2 rfl ?_
  refine j_bipush E (v := 44) dX12_readLine_25 (by decide) ?_
  refine j_callV E [.int (44 : Int32)] [] (c_X12_need (gL G) (gD G) (gY G) v0 (44 : Int32) Z I53 L54 _ hZ kv0 h) (gwV W_713 W_714 W_715 W_679 W_712) rfl ⟨rfl, fy_X12_need⟩ ⟨by decide, by decide⟩ (c := 12) rfl (by decide) kv0 rfl rfl (Nat.le_of_ble_eq_true rfl) ⟨Nat.zero_le _, Nat.zero_le _⟩ dX12_readLine_27 (fun v57 Z58 I59 L60 q61 => ?_)
  obtain ⟨rfl, rfl, h⟩ := q61
  show jJ G 10 30 [(3, .int r56), (2, .int r45), (0, .ref v0), (1, .int v1)] [] Z I59 L60 0 0
  refine j_aload_n E dX12_readLine_30 2 rfl ?_
  refine j_iconst E (v := 2) dX12_readLine_31 (by decide) ?_
  refine j_iconst E (v := 0) dX12_readLine_32 (by decide) ?_
  refine j_bipush E (v := 20) dX12_readLine_33 (by decide) ?_
  refine j_callV E [.int (2 : Int32), .int (0 : Int32), .int (20 : Int32)] [] (c_X12_number (gL G) (gD G) (gY G) v0 (2 : Int32) (0 : Int32) (20 : Int32) Z I59 L60 _ hZ kv0 h) (gwV W_709 W_710 W_711 W_679 W_708) rfl ⟨rfl, fy_X12_number⟩ ⟨by decide, by decide⟩ (c := 12) rfl (by decide) kv0 rfl rfl (Nat.le_of_ble_eq_true rfl) ⟨Nat.zero_le _, Nat.zero_le _⟩ dX12_readLine_35 (fun v62 Z63 I64 L65 q66 => ?_)
  obtain ⟨rfl, r67, rfl, h⟩ := q66
  show jJ G 10 38 [(3, .int r56), (2, .int r45), (0, .ref v0), (1, .int v1)] [.int r67] Z I64 L65 0 0
  refine j_istore E 4 [(4, .int r67), (3, .int r56), (2, .int r45), (0, .ref v0), (1, .int v1)] dX12_readLine_38 (by decide) rfl ?_
  refine j_aload_n E dX12_readLine_40 3 rfl ?_
  refine j_bipush E (v := 64) dX12_readLine_41 (by decide) ?_
  refine j_callV E [.int (64 : Int32)] [] (c_X12_need (gL G) (gD G) (gY G) v0 (64 : Int32) Z I64 L65 _ hZ kv0 h) (gwV W_713 W_714 W_715 W_679 W_712) rfl ⟨rfl, fy_X12_need⟩ ⟨by decide, by decide⟩ (c := 12) rfl (by decide) kv0 rfl rfl (Nat.le_of_ble_eq_true rfl) ⟨Nat.zero_le _, Nat.zero_le _⟩ dX12_readLine_43 (fun v68 Z69 I70 L71 q72 => ?_)
  obtain ⟨rfl, rfl, h⟩ := q72
  show jJ G 10 46 [(4, .int r67), (3, .int r56), (2, .int r45), (0, .ref v0), (1, .int v1)] [] Z I70 L71 0 0
  refine j_aload_n E dX12_readLine_46 3 rfl ?_
  refine j_iconst E (v := 1) dX12_readLine_47 (by decide) ?_
  refine j_iconst E (v := 0) dX12_readLine_48 (by decide) ?_
  refine j_bipush E (v := 7) dX12_readLine_49 (by decide) ?_
  refine j_callV E [.int (1 : Int32), .int (0 : Int32), .int (7 : Int32)] [] (c_X12_number (gL G) (gD G) (gY G) v0 (1 : Int32) (0 : Int32) (7 : Int32) Z I70 L71 _ hZ kv0 h) (gwV W_709 W_710 W_711 W_679 W_708) rfl ⟨rfl, fy_X12_number⟩ ⟨by decide, by decide⟩ (c := 12) rfl (by decide) kv0 rfl rfl (Nat.le_of_ble_eq_true rfl) ⟨Nat.zero_le _, Nat.zero_le _⟩ dX12_readLine_51 (fun v73 Z74 I75 L76 q77 => ?_)
  obtain ⟨rfl, r78, rfl, h⟩ := q77
  show jJ G 10 54 [(4, .int r67), (3, .int r56), (2, .int r45), (0, .ref v0), (1, .int v1)] [.int r78] Z I75 L76 0 0
  refine j_istore E 5 [(5, .int r78), (4, .int r67), (3, .int r56), (2, .int r45), (0, .ref v0), (1, .int v1)] dX12_readLine_54 (by decide) rfl ?_
  refine j_aload_n E dX12_readLine_56 4 rfl ?_
  refine j_bipush E (v := 119) dX12_readLine_57 (by decide) ?_
  refine j_callV E [.int (119 : Int32)] [] (c_X12_passes (gL G) (gD G) (gY G) v0 (119 : Int32) Z I75 L76 _ hZ kv0 h) (gwV W_700 W_701 W_702 W_679 W_699) rfl ⟨rfl, fy_X12_passes⟩ ⟨by decide, by decide⟩ (c := 12) rfl (by decide) kv0 rfl rfl (Nat.le_of_ble_eq_true rfl) ⟨Nat.zero_le _, Nat.zero_le _⟩ dX12_readLine_59 (fun v79 Z80 I81 L82 q83 => ?_)
  obtain ⟨rfl, r84, rfl, zr84, h⟩ := q83
  show jJ G 10 62 [(5, .int r78), (4, .int r67), (3, .int r56), (2, .int r45), (0, .ref v0), (1, .int v1)] [.int r84] Z I81 L82 0 0
  refine j_if_eq E 69 dX12_readLine_62 (by decide) (fun c85 => ?_) (fun c85 => ?_)
  · have h := h.1 c85
    refine j_iconst E (v := 0) dX12_readLine_69 (by decide) ?_
    refine j_sub [4, 5, 3, 2, 1, 0] rfl ?_
    exact m_X12_readLine_b70 E hZ  v0 v1 r45 r56 r67 r78 (0 : Int32) I81 L82 kv0 h
  · have h := h.2 c85
    refine j_iconst E (v := 1) dX12_readLine_65 (by decide) ?_
    refine j_goto E 70 dX12_readLine_66 (by decide) ?_
    refine j_sub [4, 5, 3, 2, 1, 0] rfl ?_
    exact m_X12_readLine_b70 E hZ  v0 v1 r45 r56 r67 r78 (1 : Int32) I81 L82 kv0 h
