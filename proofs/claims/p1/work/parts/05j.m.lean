set_option maxRecDepth 100000 in
def f_X12_tellPart_L6  (Z : jZ) (Q : jI → jL → Prop) : Nat → Nat → Int64 → Int64 → Int64 → Int64 → jI → jL → Prop
  | 0 => fun _ _ _ _ _ _ _ => False
  | n + 1 => fun v0 v1 v3 v5 v7 I L => (((lg_cmp v7 (0 : Int64)) = 0 → (¬ v5 = 0 ∧ (f_X12_tell v0 (v1 / v5) Z I L (fun I5 L6 => (¬ v5 = 0 ∧ (f_X12_tell v0 (v3 / v5) Z I5 L6 (fun I11 L12 => Q I11 L12))))))) ∧ (¬ ((lg_cmp v7 (0 : Int64)) = 0) → (¬ v7 = 0 ∧ (∀ x15 : Int64, x15 = (v5 - v5 / v7 * v7) → (f_X12_tellPart_L6 Z Q n) v0 v1 v3 v7 x15 I L))))
set_option maxHeartbeats 4000000 in
set_option maxRecDepth 100000 in
theorem m_X12_tellPart_L6 {G : jG} {Z : jZ} {Q : jI → jL → Prop} (E : jE G cX12_tellPart RX12 w_X12_tellPart 11 none { frames := 1, cells := 0, slots := 0, locals := 22 } (rtV Z Q)) (hZ : SH Z)  : ∀ (n : Nat) (v0 : Nat) (v1 : Int64) (v3 : Int64) (v5 : Int64) (v7 : Int64) (I : jI) (L : jL), jk Z v0 12 → f_X12_tellPart_L6  Z Q n v0 v1 v3 v5 v7 I L → jJ G 11 6 [(0, .ref v0), (1, .long v1), (3, .long v3), (5, .long v5), (7, .long v7)] [] Z I L 0 0 := by
  intro n
  induction n with
  | zero => intro v0 v1 v3 v5 v7 I L _ h; exact h.elim
  | succ n ih =>
    intro v0 v1 v3 v5 v7 I L kv0 h
    have h : (((lg_cmp v7 (0 : Int64)) = 0 → (¬ v5 = 0 ∧ (f_X12_tell v0 (v1 / v5) Z I L (fun I5 L6 => (¬ v5 = 0 ∧ (f_X12_tell v0 (v3 / v5) Z I5 L6 (fun I11 L12 => Q I11 L12))))))) ∧ (¬ ((lg_cmp v7 (0 : Int64)) = 0) → (¬ v7 = 0 ∧ (∀ x15 : Int64, x15 = (v5 - v5 / v7 * v7) → (f_X12_tellPart_L6 Z Q n) v0 v1 v3 v7 x15 I L)))) := h
    obtain ⟨K6, eK6⟩ : ∃ K : Nat → Int64 → Int64 → Int64 → Int64 → jI → jL → Prop, K = f_X12_tellPart_L6  Z Q n := ⟨_, rfl⟩
    have hK6 := ih
    clear eK6 K6
    generalize f_X12_tellPart_L6  Z Q n = K6 at hK6 h
    refine j_lload E dX12_tellPart_6 4 rfl ?_
    refine j_lconst E (v := 0) dX12_tellPart_8 (by decide) ?_
    refine j_lcmp E dX12_tellPart_9 ?_
    refine j_if_eq E 31 dX12_tellPart_10 (by decide) (fun c1 => ?_) (fun c1 => ?_)
    · have h := h.1 c1
      refine j_aload_n E dX12_tellPart_31 0 rfl ?_
      refine j_lload_n E dX12_tellPart_32 1 rfl ?_
      refine j_lload E dX12_tellPart_33 3 rfl ?_
      obtain ⟨o2, h⟩ := h
      refine j_ldiv E dX12_tellPart_35 o2 ?_
      refine j_callV E [.long (v1 / v5)] [] (c_X12_tell (gL G) (gD G) (gY G) v0 (v1 / v5) Z I L _ hZ kv0 h) (gwV W_784 W_785 W_786 W_679 W_783) rfl ⟨rfl, fy_X12_tell⟩ ⟨by decide, by decide⟩ (c := 12) rfl (by decide) kv0 rfl rfl (Nat.le_of_ble_eq_true rfl) ⟨Nat.zero_le _, Nat.zero_le _⟩ dX12_tellPart_36 (fun v3 Z4 I5 L6 q7 => ?_)
      obtain ⟨rfl, rfl, h⟩ := q7
      show jJ G 11 39 [(0, .ref v0), (1, .long v1), (3, .long v3), (5, .long v5), (7, .long v7)] [] Z I5 L6 0 0
      refine j_aload_n E dX12_tellPart_39 0 rfl ?_
      refine j_lload_n E dX12_tellPart_40 2 rfl ?_
      refine j_lload E dX12_tellPart_41 3 rfl ?_
      obtain ⟨o8, h⟩ := h
      refine j_ldiv E dX12_tellPart_43 o8 ?_
      refine j_callV E [.long (v3 / v5)] [] (c_X12_tell (gL G) (gD G) (gY G) v0 (v3 / v5) Z I5 L6 _ hZ kv0 h) (gwV W_784 W_785 W_786 W_679 W_783) rfl ⟨rfl, fy_X12_tell⟩ ⟨by decide, by decide⟩ (c := 12) rfl (by decide) kv0 rfl rfl (Nat.le_of_ble_eq_true rfl) ⟨Nat.zero_le _, Nat.zero_le _⟩ dX12_tellPart_44 (fun v9 Z10 I11 L12 q13 => ?_)
      obtain ⟨rfl, rfl, h⟩ := q13
      show jJ G 11 47 [(0, .ref v0), (1, .long v1), (3, .long v3), (5, .long v5), (7, .long v7)] [] Z I11 L12 0 0
      exact j_return E ⟨rfl, rfl, h⟩ (Nat.zero_le _) (Nat.zero_le _) dX12_tellPart_47
    · have h := h.2 c1
      refine j_lload E dX12_tellPart_13 3 rfl ?_
      refine j_lload E dX12_tellPart_15 4 rfl ?_
      obtain ⟨o14, h⟩ := h
      refine j_lrem E dX12_tellPart_17 o14 ?_
      refine j_topl (fun x15 ex15 => ?_)
      have h := h x15 ex15
      refine j_lstore E 9 [(9, .long x15), (0, .ref v0), (1, .long v1), (3, .long v3), (5, .long v5), (7, .long v7)] dX12_tellPart_18 (by decide) rfl ?_
      refine j_lload E dX12_tellPart_20 5 rfl ?_
      refine j_lstore E 5 [(5, .long v7), (9, .long x15), (0, .ref v0), (1, .long v1), (3, .long v3), (7, .long v7)] dX12_tellPart_22 (by decide) rfl ?_
      refine j_lload E dX12_tellPart_24 1 rfl ?_
      refine j_lstore E 7 [(7, .long x15), (5, .long v7), (9, .long x15), (0, .ref v0), (1, .long v1), (3, .long v3)] dX12_tellPart_26 (by decide) rfl ?_
      refine j_goto E 6 dX12_tellPart_28 (by decide) ?_
      refine j_sub [3, 4, 5, 1, 0] rfl ?_
      exact hK6 v0 v1 v3 v7 x15 I L kv0 h
set_option maxRecDepth 100000 in
def f_X12_tellPart (v0 : Nat) (v1 : Int64) (v3 : Int64) (Z : jZ) (I : jI) (L : jL) (Q : jI → jL → Prop) : Prop := (∃ m6 : Nat, f_X12_tellPart_L6  Z Q m6 v0 v1 v3 v1 v3 I L)
set_option maxHeartbeats 4000000 in
set_option maxRecDepth 100000 in
theorem c_X12_tellPart (l : Launch) (D : va_G) (cy : jC) (v0 : Nat) (v1 : Int64) (v3 : Int64) (Z : jZ) (I : jI) (L : jL) (Q : jI → jL → Prop) (hZ : SH Z) (kv0 : jk Z v0 12) (h : f_X12_tellPart v0 v1 v3 Z I L Q) : jCt l yX12_tellPart w_X12_tellPart { frames := 1, cells := 0, slots := 0, locals := 22 } D cy [.ref v0, .long v1, .long v3] Z I L (rtV Z Q) := by
  refine jCt_of (cc := cX12_tellPart) (maxL := 11) (ret := none) (by decide +kernel) rfl (Nat.le_of_ble_eq_true rfl) ?_
  intro G eD eY eL E
  subst eD; subst eY; subst eL
  have E : jE G cX12_tellPart RX12 w_X12_tellPart 11 none { frames := 1, cells := 0, slots := 0, locals := 22 } (rtV Z Q) := E
  show jJ G 11 0 [(0, .ref v0), (1, .long v1), (3, .long v3)] [] Z I L 0 0
  refine j_lload_n E dX12_tellPart_0 1 rfl ?_
  refine j_lstore E 5 [(5, .long v1), (0, .ref v0), (1, .long v1), (3, .long v3)] dX12_tellPart_1 (by decide) rfl ?_
  refine j_lload_n E dX12_tellPart_3 3 rfl ?_
  refine j_lstore E 7 [(7, .long v3), (5, .long v1), (0, .ref v0), (1, .long v1), (3, .long v3)] dX12_tellPart_4 (by decide) rfl ?_
  obtain ⟨n16, h⟩ := h
  refine j_sub [2, 3, 4, 1, 0] rfl ?_
  exact m_X12_tellPart_L6 E hZ  n16 v0 v1 v3 v1 v3 I L kv0 h
set_option maxRecDepth 100000 in
def f_X12_trod (v0 : Nat) (v1 : Int32) (v2 : Int32) (v3 : Int32) (Z : jZ) (I : jI) (L : jL) (Q : Int32 → jZ → jI → jL → Prop) : Prop := (∀ I1 : jI, I1 = jpI I v0 22 (0 : Int32) → (f_X12_isOne v0 v1 Z I1 L (fun r7 I4 L5 => ((r7 = 0 → Q (-1 : Int32) Z I4 L5) ∧ (¬ (r7 = 0) → (f_X12_isCost v2 Z I4 L5 (fun r14 I11 L12 => ((r14 = 0 → Q (-1 : Int32) Z I11 L12) ∧ (¬ (r14 = 0) → (f_X12_isStep v0 v3 Z I11 L12 (fun r21 I18 L19 => ((¬ r21 = 0 → (f_X12_countTreading v0 v1 v2 v3 Z I18 L19 (fun r28 Z24 I25 L26 => (f_X12_countWays v0 v1 v2 Z24 I25 L26 (fun r35 Z31 I32 L33 => ((¬ r35 = 0 → (∀ I38 : jI, I38 = jpI I32 v0 21 (0 : Int32) → (f_X12_tellPart v0 (r28.toInt64) (r35.toInt64) Z31 I38 L33 (fun I41 L42 => Q (0 : Int32) Z31 I41 L42)))) ∧ (r35 = 0 → Q (-2 : Int32) Z31 I32 L33))))))) ∧ (r21 = 0 → Q (-1 : Int32) Z I18 L19)))))))))))))
set_option maxHeartbeats 4000000 in
set_option maxRecDepth 100000 in
theorem c_X12_trod (l : Launch) (D : va_G) (cy : jC) (v0 : Nat) (v1 : Int32) (v2 : Int32) (v3 : Int32) (Z : jZ) (I : jI) (L : jL) (Q : Int32 → jZ → jI → jL → Prop) (hZ : SH Z) (kv0 : jk Z v0 12) (h : f_X12_trod v0 v1 v2 v3 Z I L Q) : jCt l yX12_trod w_X12_trod { frames := 6, cells := 0, slots := 0, locals := 154 } D cy [.ref v0, .int v1, .int v2, .int v3] Z I L (xrtI Z Q) := by
  refine jCt_of (cc := cX12_trod) (maxL := 6) (ret := (some .int)) (by decide +kernel) rfl (Nat.le_of_ble_eq_true rfl) ?_
  intro G eD eY eL E
  subst eD; subst eY; subst eL
  have E : jE G cX12_trod RX12 w_X12_trod 6 (some .int) { frames := 6, cells := 0, slots := 0, locals := 154 } (xrtI Z Q) := E
  have hx : jext Z Z := jext_rfl
  show jJ G 6 0 [(0, .ref v0), (1, .int v1), (2, .int v2), (3, .int v3)] [] Z I L 0 0
  refine j_aload_n E dX12_trod_0 0 rfl ?_
  refine j_iconst E (v := 0) dX12_trod_1 (by decide) ?_
  refine j_puti E 12 22 rfl rfl (by decide) (by decide) (iw iT_12) tyX12_ok nmX12 rfl rfl (tw W_674) rfl rfl rfl kv0 dX12_trod_2 ?_
  refine j_nmI (fun I1 eI1 => ?_)
  have h := h I1 eI1
  refine j_aload_n E dX12_trod_5 0 rfl ?_
  refine j_iload_n E dX12_trod_6 1 rfl ?_
  refine j_callV E [.int v1] [] (c_X12_isOne (gL G) (gD G) (gY G) v0 v1 Z I1 L _ hZ kv0 h) (gwV W_768 W_769 W_770 W_679 W_767) rfl ⟨rfl, fy_X12_isOne⟩ ⟨by decide, by decide⟩ (c := 12) rfl (by decide) kv0 rfl rfl (Nat.le_of_ble_eq_true rfl) ⟨Nat.zero_le _, Nat.zero_le _⟩ dX12_trod_7 (fun v2 Z3 I4 L5 q6 => ?_)
  obtain ⟨rfl, r7, rfl, zr7, h⟩ := q6
  show jJ G 6 10 [(0, .ref v0), (1, .int v1), (2, .int v2), (3, .int v3)] [.int r7] Z I4 L5 0 0
  refine j_if_eq E 28 dX12_trod_10 (by decide) (fun c8 => ?_) (fun c8 => ?_)
  · have h := h.1 c8
    refine j_iconst E (v := -1) dX12_trod_28 (by decide) ?_
    exact j_ireturn E ⟨hx, hZ, _, rfl, h⟩ (Nat.zero_le _) (Nat.zero_le _) dX12_trod_29
  · have h := h.2 c8
    refine j_iload_n E dX12_trod_13 2 rfl ?_
    refine j_callS E [.int v2] [] (c_X12_isCost (gL G) (gD G) (gY G) v2 Z I4 L5 _ hZ  h) (gwS W_835 W_836 W_679 W_834) rfl fy_X12_isCost ⟨by decide, by decide⟩ rfl rfl (Nat.le_of_ble_eq_true rfl) ⟨Nat.zero_le _, Nat.zero_le _⟩ dX12_trod_14 (fun v9 Z10 I11 L12 q13 => ?_)
    obtain ⟨rfl, r14, rfl, zr14, h⟩ := q13
    show jJ G 6 17 [(0, .ref v0), (1, .int v1), (2, .int v2), (3, .int v3)] [.int r14] Z I11 L12 0 0
    refine j_if_eq E 28 dX12_trod_17 (by decide) (fun c15 => ?_) (fun c15 => ?_)
    · have h := h.1 c15
      refine j_iconst E (v := -1) dX12_trod_28 (by decide) ?_
      exact j_ireturn E ⟨hx, hZ, _, rfl, h⟩ (Nat.zero_le _) (Nat.zero_le _) dX12_trod_29
    · have h := h.2 c15
      refine j_aload_n E dX12_trod_20 0 rfl ?_
      refine j_iload_n E dX12_trod_21 3 rfl ?_
      refine j_callV E [.int v3] [] (c_X12_isStep (gL G) (gD G) (gY G) v0 v3 Z I11 L12 _ hZ kv0 h) (gwV W_752 W_753 W_754 W_679 W_751) rfl ⟨rfl, fy_X12_isStep⟩ ⟨by decide, by decide⟩ (c := 12) rfl (by decide) kv0 rfl rfl (Nat.le_of_ble_eq_true rfl) ⟨Nat.zero_le _, Nat.zero_le _⟩ dX12_trod_22 (fun v16 Z17 I18 L19 q20 => ?_)
      obtain ⟨rfl, r21, rfl, zr21, h⟩ := q20
      show jJ G 6 25 [(0, .ref v0), (1, .int v1), (2, .int v2), (3, .int v3)] [.int r21] Z I18 L19 0 0
      refine j_if_ne E 30 dX12_trod_25 (by decide) (fun c22 => ?_) (fun c22 => ?_)
      · have h := h.1 c22
        refine j_aload_n E dX12_trod_30 0 rfl ?_
        refine j_iload_n E dX12_trod_31 1 rfl ?_
        refine j_iload_n E dX12_trod_32 2 rfl ?_
        refine j_iload_n E dX12_trod_33 3 rfl ?_
        refine j_callV E [.int v1, .int v2, .int v3] [] (c_X12_countTreading (gL G) (gD G) (gY G) v0 v1 v2 v3 Z I18 L19 _ hZ kv0 h) (gwV W_842 W_843 W_844 W_679 W_841) rfl ⟨rfl, fy_X12_countTreading⟩ ⟨by decide, by decide⟩ (c := 12) rfl (by decide) kv0 rfl rfl (Nat.le_of_ble_eq_true rfl) ⟨Nat.zero_le _, Nat.zero_le _⟩ dX12_trod_34 (fun v23 Z24 I25 L26 q27 => ?_)
        obtain ⟨yZ24, hZ24, r28, rfl, h⟩ := q27
        have hZ := hZ24
        have hx : jext Z Z24 := jext_trans hx yZ24
        have k29 := (yZ24 _ _ kv0).1
        show jJ G 6 37 [(0, .ref v0), (1, .int v1), (2, .int v2), (3, .int v3)] [.int r28] Z24 I25 L26 0 0
        refine j_istore E 4 [(4, .int r28), (0, .ref v0), (1, .int v1), (2, .int v2), (3, .int v3)] dX12_trod_37 (by decide) rfl ?_
        refine j_aload_n E dX12_trod_39 1 rfl ?_
        refine j_iload_n E dX12_trod_40 2 rfl ?_
        refine j_iload_n E dX12_trod_41 3 rfl ?_
        refine j_callV E [.int v1, .int v2] [] (c_X12_countWays (gL G) (gD G) (gY G) v0 v1 v2 Z24 I25 L26 _ hZ k29 h) (gwV W_838 W_839 W_840 W_679 W_837) rfl ⟨rfl, fy_X12_countWays⟩ ⟨by decide, by decide⟩ (c := 12) rfl (by decide) k29 rfl rfl (Nat.le_of_ble_eq_true rfl) ⟨Nat.zero_le _, Nat.zero_le _⟩ dX12_trod_42 (fun v30 Z31 I32 L33 q34 => ?_)
        obtain ⟨yZ31, hZ31, r35, rfl, h⟩ := q34
        have hZ := hZ31
        have hx : jext Z Z31 := jext_trans hx yZ31
        have k36 := (yZ31 _ _ k29).1
        show jJ G 6 45 [(4, .int r28), (0, .ref v0), (1, .int v1), (2, .int v2), (3, .int v3)] [.int r35] Z31 I32 L33 0 0
        refine j_istore E 5 [(5, .int r35), (4, .int r28), (0, .ref v0), (1, .int v1), (2, .int v2), (3, .int v3)] dX12_trod_45 (by decide) rfl ?_
        refine j_iload E dX12_trod_47 0 rfl ?_
        refine j_if_ne E 55 dX12_trod_49 (by decide) (fun c37 => ?_) (fun c37 => ?_)
        · have h := h.1 c37
          refine j_aload_n E dX12_trod_55 2 rfl ?_
          refine j_iconst E (v := 0) dX12_trod_56 (by decide) ?_
          refine j_puti E 12 21 rfl rfl (by decide) (by decide) (iw iT_12) tyX12_ok nmX12 rfl rfl (tw W_676) rfl rfl rfl k36 dX12_trod_57 ?_
          refine j_nmI (fun I38 eI38 => ?_)
          have h := h I38 eI38
          refine j_aload_n E dX12_trod_60 2 rfl ?_
          refine j_iload E dX12_trod_61 1 rfl ?_
          refine j_i2l E dX12_trod_63 ?_
          refine j_iload E dX12_trod_64 0 rfl ?_
          refine j_i2l E dX12_trod_66 ?_
          refine j_callV E [.long (r28.toInt64), .long (r35.toInt64)] [] (c_X12_tellPart (gL G) (gD G) (gY G) v0 (r28.toInt64) (r35.toInt64) Z31 I38 L33 _ hZ k36 h) (gwV W_846 W_847 W_848 W_679 W_845) rfl ⟨rfl, fy_X12_tellPart⟩ ⟨by decide, by decide⟩ (c := 12) rfl (by decide) k36 rfl rfl (Nat.le_of_ble_eq_true rfl) ⟨Nat.zero_le _, Nat.zero_le _⟩ dX12_trod_67 (fun v39 Z40 I41 L42 q43 => ?_)
          obtain ⟨rfl, rfl, h⟩ := q43
          show jJ G 6 70 [(5, .int r35), (4, .int r28), (0, .ref v0), (1, .int v1), (2, .int v2), (3, .int v3)] [] Z31 I41 L42 0 0
          refine j_iconst E (v := 0) dX12_trod_70 (by decide) ?_
          exact j_ireturn E ⟨hx, hZ, _, rfl, h⟩ (Nat.zero_le _) (Nat.zero_le _) dX12_trod_71
        · have h := h.2 c37
          refine j_bipush E (v := -2) dX12_trod_52 (by decide) ?_
          exact j_ireturn E ⟨hx, hZ, _, rfl, h⟩ (Nat.zero_le _) (Nat.zero_le _) dX12_trod_54
      · have h := h.2 c22
        refine j_iconst E (v := -1) dX12_trod_28 (by decide) ?_
        exact j_ireturn E ⟨hx, hZ, _, rfl, h⟩ (Nat.zero_le _) (Nat.zero_le _) dX12_trod_29
set_option maxRecDepth 100000 in
def f_X12_who_b56 (K27 : Nat → Int32 → Int32 → Int32 → Int32 → jZ → jI → jL → Prop) (Q : Int32 → jZ → jI → jL → Prop) (v0 : Nat) (v1 : Int32) (v2 : Int32) (v4 : Int32) (s0 : Int32) (s1 : Int32) (Z : jZ) (I : jI) (L : jL) : Prop := (∀ x1 : Int32, x1 = (s0 ||| s1) → (∀ x2 : Int32, x2 = v4 + 1 → K27 v0 v1 v2 x1 x2 Z I L))
set_option maxHeartbeats 4000000 in
set_option maxRecDepth 100000 in
theorem m_X12_who_b56 {G : jG} {Z0 : jZ} {Q : Int32 → jZ → jI → jL → Prop} (E : jE G cX12_who RX12 w_X12_who 5 (some .int) { frames := 6, cells := 0, slots := 0, locals := 154 } (xrtI Z0 Q)) (K27 : Nat → Int32 → Int32 → Int32 → Int32 → jZ → jI → jL → Prop) (hK27 : ∀ (v0 : Nat) (v1 : Int32) (v2 : Int32) (v3 : Int32) (v4 : Int32) (Z : jZ) (I : jI) (L : jL), SH Z → jext Z0 Z → jk Z v0 12 → K27 v0 v1 v2 v3 v4 Z I L → jJ G 5 27 [(0, .ref v0), (1, .int v1), (2, .int v2), (3, .int v3), (4, .int v4)] [] Z I L 0 0) (v0 : Nat) (v1 : Int32) (v2 : Int32) (v4 : Int32) (s0 : Int32) (s1 : Int32) (Z : jZ) (I : jI) (L : jL) (hZ : SH Z) (hx : jext Z0 Z) (kv0 : jk Z v0 12) (h : f_X12_who_b56 K27 Q v0 v1 v2 v4 s0 s1 Z I L) : jJ G 5 56 [(0, .ref v0), (1, .int v1), (2, .int v2), (4, .int v4)] [.int s1, .int s0] Z I L 0 0 := by
  refine j_ior E dX12_who_56 ?_
  refine j_topi (fun x1 ex1 => ?_)
  have h := h x1 ex1
  refine j_istore_n E 3 [(3, .int x1), (0, .ref v0), (1, .int v1), (2, .int v2), (4, .int v4)] dX12_who_57 rfl (by decide) rfl ?_
  obtain ⟨x2, ex2⟩ : ∃ y : Int32, y = v4 + 1 := ⟨_, rfl⟩
  have h := h x2 ex2
  refine j_iinc E x2 [(4, .int x2), (3, .int x1), (0, .ref v0), (1, .int v1), (2, .int v2)] dX12_who_58 4 rfl (by rw [ex2]; rfl) (by decide) rfl ?_
  refine j_goto E 27 dX12_who_61 (by decide) ?_
  refine j_sub [2, 3, 4, 1, 0] rfl ?_
  exact hK27 v0 v1 v2 x1 x2 Z I L hZ hx kv0 h
set_option maxRecDepth 100000 in
def f_X12_who_L27  (Q : Int32 → jZ → jI → jL → Prop) : Nat → Nat → Int32 → Int32 → Int32 → Int32 → jZ → jI → jL → Prop
  | 0 => fun _ _ _ _ _ _ _ _ => False
  | n + 1 => fun v0 v1 v2 v3 v4 Z I L => (((I v0 8) ≤ v4 → Q v3 Z I L) ∧ (¬ ((I v0 8) ≤ v4) → (f_X12_countTreading v0 v4 v1 v2 Z I L (fun r9 Z5 I6 L7 => ((r9 ≤ 0 → f_X12_who_b56 (f_X12_who_L27 Q n) Q v0 v1 v2 v4 v3 (0 : Int32) Z5 I6 L7) ∧ (¬ (r9 ≤ 0) → f_X12_who_b56 (f_X12_who_L27 Q n) Q v0 v1 v2 v4 v3 ((1 : Int32) <<< (v4 &&& 31)) Z5 I6 L7))))))
set_option maxHeartbeats 4000000 in
set_option maxRecDepth 100000 in
theorem m_X12_who_L27 {G : jG} {Z0 : jZ} {Q : Int32 → jZ → jI → jL → Prop} (E : jE G cX12_who RX12 w_X12_who 5 (some .int) { frames := 6, cells := 0, slots := 0, locals := 154 } (xrtI Z0 Q))  : ∀ (n : Nat) (v0 : Nat) (v1 : Int32) (v2 : Int32) (v3 : Int32) (v4 : Int32) (Z : jZ) (I : jI) (L : jL), SH Z → jext Z0 Z → jk Z v0 12 → f_X12_who_L27  Q n v0 v1 v2 v3 v4 Z I L → jJ G 5 27 [(0, .ref v0), (1, .int v1), (2, .int v2), (3, .int v3), (4, .int v4)] [] Z I L 0 0 := by
  intro n
  induction n with
  | zero => intro v0 v1 v2 v3 v4 Z I L _ _ _ h; exact h.elim
  | succ n ih =>
    intro v0 v1 v2 v3 v4 Z I L hZ hx kv0 h
    have h : (((I v0 8) ≤ v4 → Q v3 Z I L) ∧ (¬ ((I v0 8) ≤ v4) → (f_X12_countTreading v0 v4 v1 v2 Z I L (fun r9 Z5 I6 L7 => ((r9 ≤ 0 → f_X12_who_b56 (f_X12_who_L27 Q n) Q v0 v1 v2 v4 v3 (0 : Int32) Z5 I6 L7) ∧ (¬ (r9 ≤ 0) → f_X12_who_b56 (f_X12_who_L27 Q n) Q v0 v1 v2 v4 v3 ((1 : Int32) <<< (v4 &&& 31)) Z5 I6 L7)))))) := h
    obtain ⟨K27, eK27⟩ : ∃ K : Nat → Int32 → Int32 → Int32 → Int32 → jZ → jI → jL → Prop, K = f_X12_who_L27  Q n := ⟨_, rfl⟩
    have hK27 := ih
    clear eK27 K27
    generalize f_X12_who_L27  Q n = K27 at hK27 h
    refine j_iload E dX12_who_27 4 rfl ?_
    refine j_aload_n E dX12_who_29 0 rfl ?_
    refine j_geti E 12 8 rfl rfl (by decide) (by decide) (iw iT_12) rfl rfl (tw W_682) kv0 dX12_who_30 ?_
    refine j_icmp_ge E 64 dX12_who_33 (by decide) (fun c3 => ?_) (fun c3 => ?_)
    · have h := h.1 c3
      refine j_iload_n E dX12_who_64 3 rfl ?_
      exact j_ireturn E ⟨hx, hZ, _, rfl, h⟩ (Nat.zero_le _) (Nat.zero_le _) dX12_who_65
    · have h := h.2 c3
      refine j_iload_n E dX12_who_36 3 rfl ?_
      refine j_aload_n E dX12_who_37 0 rfl ?_
      refine j_iload E dX12_who_38 4 rfl ?_
      refine j_iload_n E dX12_who_40 1 rfl ?_
      refine j_iload_n E dX12_who_41 2 rfl ?_
      refine j_callV E [.int v4, .int v1, .int v2] [.int v3] (c_X12_countTreading (gL G) (gD G) (gY G) v0 v4 v1 v2 Z I L _ hZ kv0 h) (gwV W_842 W_843 W_844 W_679 W_841) rfl ⟨rfl, fy_X12_countTreading⟩ ⟨by decide, by decide⟩ (c := 12) rfl (by decide) kv0 rfl rfl (Nat.le_of_ble_eq_true rfl) ⟨Nat.zero_le _, Nat.zero_le _⟩ dX12_who_42 (fun v4 Z5 I6 L7 q8 => ?_)
      obtain ⟨yZ5, hZ5, r9, rfl, h⟩ := q8
      have hZ := hZ5
      have hx : jext Z0 Z5 := jext_trans hx yZ5
      have k10 := (yZ5 _ _ kv0).1
      show jJ G 5 45 [(0, .ref v0), (1, .int v1), (2, .int v2), (3, .int v3), (4, .int v4)] [.int r9, .int v3] Z5 I6 L7 0 0
      refine j_if_le E 55 dX12_who_45 (by decide) (fun c11 => ?_) (fun c11 => ?_)
      · have h := h.1 c11
        refine j_iconst E (v := 0) dX12_who_55 (by decide) ?_
        refine j_sub [0, 1, 2, 4] rfl ?_
        exact m_X12_who_b56 E K27 hK27 v0 v1 v2 v4 v3 (0 : Int32) Z5 I6 L7 hZ hx k10 h
      · have h := h.2 c11
        refine j_iconst E (v := 1) dX12_who_48 (by decide) ?_
        refine j_iload E dX12_who_49 4 rfl ?_
        refine j_ishl E dX12_who_51 ?_
        refine j_goto E 56 dX12_who_52 (by decide) ?_
        refine j_sub [0, 1, 2, 4] rfl ?_
        exact m_X12_who_b56 E K27 hK27 v0 v1 v2 v4 v3 ((1 : Int32) <<< (v4 &&& 31)) Z5 I6 L7 hZ hx k10 h
set_option maxRecDepth 100000 in
def f_X12_who (v0 : Nat) (v1 : Int32) (v2 : Int32) (Z : jZ) (I : jI) (L : jL) (Q : Int32 → jZ → jI → jL → Prop) : Prop := (∀ I12 : jI, I12 = jpI I v0 22 (0 : Int32) → (f_X12_isCost v1 Z I12 L (fun r18 I15 L16 => ((r18 = 0 → Q (-1 : Int32) Z I15 L16) ∧ (¬ (r18 = 0) → (f_X12_isStep v0 v2 Z I15 L16 (fun r25 I22 L23 => ((¬ r25 = 0 → (∃ m27 : Nat, f_X12_who_L27  Q m27 v0 v1 v2 (0 : Int32) (0 : Int32) Z I22 L23)) ∧ (r25 = 0 → Q (-1 : Int32) Z I22 L23)))))))))
set_option maxHeartbeats 4000000 in
set_option maxRecDepth 100000 in
theorem c_X12_who (l : Launch) (D : va_G) (cy : jC) (v0 : Nat) (v1 : Int32) (v2 : Int32) (Z : jZ) (I : jI) (L : jL) (Q : Int32 → jZ → jI → jL → Prop) (hZ : SH Z) (kv0 : jk Z v0 12) (h : f_X12_who v0 v1 v2 Z I L Q) : jCt l yX12_who w_X12_who { frames := 6, cells := 0, slots := 0, locals := 154 } D cy [.ref v0, .int v1, .int v2] Z I L (xrtI Z Q) := by
  refine jCt_of (cc := cX12_who) (maxL := 5) (ret := (some .int)) (by decide +kernel) rfl (Nat.le_of_ble_eq_true rfl) ?_
  intro G eD eY eL E
  subst eD; subst eY; subst eL
  have E : jE G cX12_who RX12 w_X12_who 5 (some .int) { frames := 6, cells := 0, slots := 0, locals := 154 } (xrtI Z Q) := E
  have hx : jext Z Z := jext_rfl
  show jJ G 5 0 [(0, .ref v0), (1, .int v1), (2, .int v2)] [] Z I L 0 0
  refine j_aload_n E dX12_who_0 0 rfl ?_
  refine j_iconst E (v := 0) dX12_who_1 (by decide) ?_
  refine j_puti E 12 22 rfl rfl (by decide) (by decide) (iw iT_12) tyX12_ok nmX12 rfl rfl (tw W_674) rfl rfl rfl kv0 dX12_who_2 ?_
  refine j_nmI (fun I12 eI12 => ?_)
  have h := h I12 eI12
  refine j_iload_n E dX12_who_5 1 rfl ?_
  refine j_callS E [.int v1] [] (c_X12_isCost (gL G) (gD G) (gY G) v1 Z I12 L _ hZ  h) (gwS W_835 W_836 W_679 W_834) rfl fy_X12_isCost ⟨by decide, by decide⟩ rfl rfl (Nat.le_of_ble_eq_true rfl) ⟨Nat.zero_le _, Nat.zero_le _⟩ dX12_who_6 (fun v13 Z14 I15 L16 q17 => ?_)
  obtain ⟨rfl, r18, rfl, zr18, h⟩ := q17
  show jJ G 5 9 [(0, .ref v0), (1, .int v1), (2, .int v2)] [.int r18] Z I15 L16 0 0
  refine j_if_eq E 20 dX12_who_9 (by decide) (fun c19 => ?_) (fun c19 => ?_)
  · have h := h.1 c19
    refine j_iconst E (v := -1) dX12_who_20 (by decide) ?_
    exact j_ireturn E ⟨hx, hZ, _, rfl, h⟩ (Nat.zero_le _) (Nat.zero_le _) dX12_who_21
  · have h := h.2 c19
    refine j_aload_n E dX12_who_12 0 rfl ?_
    refine j_iload_n E dX12_who_13 2 rfl ?_
    refine j_callV E [.int v2] [] (c_X12_isStep (gL G) (gD G) (gY G) v0 v2 Z I15 L16 _ hZ kv0 h) (gwV W_752 W_753 W_754 W_679 W_751) rfl ⟨rfl, fy_X12_isStep⟩ ⟨by decide, by decide⟩ (c := 12) rfl (by decide) kv0 rfl rfl (Nat.le_of_ble_eq_true rfl) ⟨Nat.zero_le _, Nat.zero_le _⟩ dX12_who_14 (fun v20 Z21 I22 L23 q24 => ?_)
    obtain ⟨rfl, r25, rfl, zr25, h⟩ := q24
    show jJ G 5 17 [(0, .ref v0), (1, .int v1), (2, .int v2)] [.int r25] Z I22 L23 0 0
    refine j_if_ne E 22 dX12_who_17 (by decide) (fun c26 => ?_) (fun c26 => ?_)
    · have h := h.1 c26
      refine j_iconst E (v := 0) dX12_who_22 (by decide) ?_
      refine j_istore_n E 3 [(3, .int (0 : Int32)), (0, .ref v0), (1, .int v1), (2, .int v2)] dX12_who_23 rfl (by decide) rfl ?_
      refine j_iconst E (v := 0) dX12_who_24 (by decide) ?_
      refine j_istore E 4 [(4, .int (0 : Int32)), (3, .int (0 : Int32)), (0, .ref v0), (1, .int v1), (2, .int v2)] dX12_who_25 (by decide) rfl ?_
      obtain ⟨n27, h⟩ := h
      refine j_sub [2, 3, 4, 1, 0] rfl ?_
      exact m_X12_who_L27 E  n27 v0 v1 v2 (0 : Int32) (0 : Int32) Z I22 L23 hZ hx kv0 h
    · have h := h.2 c26
      refine j_iconst E (v := -1) dX12_who_20 (by decide) ?_
      exact j_ireturn E ⟨hx, hZ, _, rfl, h⟩ (Nat.zero_le _) (Nat.zero_le _) dX12_who_21
set_option maxRecDepth 100000 in
def f_X12_findByCost_b142 (K7 : Nat → Int32 → Int32 → jI → jL → Prop) (K14 : Nat → Int32 → Int32 → Int32 → jI → jL → Prop) (K45 : Nat → Int32 → Int32 → Int32 → Int32 → Int32 → jI → jL → Prop) (Z : jZ) (Q : jI → jL → Prop) (v0 : Nat) (v1 : Int32) (v2 : Int32) (v3 : Int32) (v4 : Int32) (v5 : Int32) (I : jI) (L : jL) : Prop := (∀ x1 : Int32, x1 = v5 + 1 → K45 v0 v1 v2 v3 v4 x1 I L)
set_option maxHeartbeats 4000000 in
set_option maxRecDepth 100000 in
theorem m_X12_findByCost_b142 {G : jG} {Z : jZ} {Q : jI → jL → Prop} (E : jE G cX12_findByCost RX12 w_X12_findByCost 8 none { frames := 1, cells := 0, slots := 0, locals := 23 } (rtV Z Q)) (hZ : SH Z) (K7 : Nat → Int32 → Int32 → jI → jL → Prop) (hK7 : ∀ (v0 : Nat) (v1 : Int32) (v2 : Int32) (I : jI) (L : jL), jk Z v0 12 → K7 v0 v1 v2 I L → jJ G 8 7 [(0, .ref v0), (1, .int v1), (2, .int v2)] [] Z I L 0 0) (K14 : Nat → Int32 → Int32 → Int32 → jI → jL → Prop) (hK14 : ∀ (v0 : Nat) (v1 : Int32) (v2 : Int32) (v3 : Int32) (I : jI) (L : jL), jk Z v0 12 → K14 v0 v1 v2 v3 I L → jJ G 8 14 [(0, .ref v0), (1, .int v1), (2, .int v2), (3, .int v3)] [] Z I L 0 0) (K45 : Nat → Int32 → Int32 → Int32 → Int32 → Int32 → jI → jL → Prop) (hK45 : ∀ (v0 : Nat) (v1 : Int32) (v2 : Int32) (v3 : Int32) (v4 : Int32) (v5 : Int32) (I : jI) (L : jL), jk Z v0 12 → K45 v0 v1 v2 v3 v4 v5 I L → jJ G 8 45 [(0, .ref v0), (1, .int v1), (2, .int v2), (3, .int v3), (4, .int v4), (5, .int v5)] [] Z I L 0 0) (v0 : Nat) (v1 : Int32) (v2 : Int32) (v3 : Int32) (v4 : Int32) (v5 : Int32) (I : jI) (L : jL) (kv0 : jk Z v0 12) (h : f_X12_findByCost_b142 K7 K14 K45 Z Q v0 v1 v2 v3 v4 v5 I L) : jJ G 8 142 [(0, .ref v0), (1, .int v1), (2, .int v2), (3, .int v3), (4, .int v4), (5, .int v5)] [] Z I L 0 0 := by
  obtain ⟨x1, ex1⟩ : ∃ y : Int32, y = v5 + 1 := ⟨_, rfl⟩
  have h := h x1 ex1
  refine j_iinc E x1 [(5, .int x1), (0, .ref v0), (1, .int v1), (2, .int v2), (3, .int v3), (4, .int v4)] dX12_findByCost_142 5 rfl (by rw [ex1]; rfl) (by decide) rfl ?_
  refine j_goto E 45 dX12_findByCost_145 (by decide) ?_
  refine j_sub [1, 2, 3, 4, 5, 0] rfl ?_
  exact hK45 v0 v1 v2 v3 v4 x1 I L kv0 h
set_option maxRecDepth 100000 in
def f_X12_findByCost_L45 (K7 : Nat → Int32 → Int32 → jI → jL → Prop) (K14 : Nat → Int32 → Int32 → Int32 → jI → jL → Prop) (Z : jZ) (Q : jI → jL → Prop) : Nat → Nat → Int32 → Int32 → Int32 → Int32 → Int32 → jI → jL → Prop
  | 0 => fun _ _ _ _ _ _ _ _ => False
  | n + 1 => fun v0 v1 v2 v3 v4 v5 I L => (((3 : Int32) < v5 → (∀ b3 : Nat, jr Z v0 40 = some b3 → (vp_in (((1000 : Int32) * (v2 + (1 : Int32))) + v3) 25000 ∧ (∀ I5 : jI, I5 = jpI I b3 (((1000 : Int32) * (v2 + (1 : Int32))) + v3).toNatClampNeg v4 → (∀ x6 : Int32, x6 = v3 + 1 → K14 v0 v1 v2 x6 I5 L))))) ∧ (¬ ((3 : Int32) < v5) → (∀ x7 : Int32, x7 = ((((3 : Int32) * (v2 + (1 : Int32))) + v5) - (1 : Int32)) → (∀ b8 : Nat, jr Z v0 37 = some b8 → (vp_in x7 75 ∧ (((I b8 x7.toNatClampNeg) = (1000000000 : Int32) → f_X12_findByCost_b142 K7 K14 (f_X12_findByCost_L45 K7 K14 Z Q n) Z Q v0 v1 v2 v3 v4 v5 I L) ∧ (¬ ((I b8 x7.toNatClampNeg) = (1000000000 : Int32)) → (∀ b11 : Nat, jr Z v0 37 = some b11 → (vp_in x7 75 ∧ (((I b11 x7.toNatClampNeg) ≤ v3 → (∀ b14 : Nat, jr Z v0 40 = some b14 → (∀ b15 : Nat, jr Z v0 37 = some b15 → (vp_in x7 75 ∧ (vp_in ((((1000 : Int32) * ((v2 + v5) + (1 : Int32))) + v3) - (I b15 x7.toNatClampNeg)) 25000 ∧ (∀ x18 : Int32, x18 = (I b14 ((((1000 : Int32) * ((v2 + v5) + (1 : Int32))) + v3) - (I b15 x7.toNatClampNeg)).toNatClampNeg) → ((x18 = (1000000000 : Int32) → f_X12_findByCost_b142 K7 K14 (f_X12_findByCost_L45 K7 K14 Z Q n) Z Q v0 v1 v2 v3 v4 v5 I L) ∧ (¬ (x18 = (1000000000 : Int32)) → (∀ b20 : Nat, jr Z v0 38 = some b20 → (vp_in x7 75 ∧ (∀ x22 : Int32, x22 = (if (x18 + (I b20 x7.toNatClampNeg)) < v4 then (x18 + (I b20 x7.toNatClampNeg)) else v4) → f_X12_findByCost_b142 K7 K14 (f_X12_findByCost_L45 K7 K14 Z Q n) Z Q v0 v1 v2 v3 x22 v5 I L))))))))))) ∧ (¬ ((I b11 x7.toNatClampNeg) ≤ v3) → f_X12_findByCost_b142 K7 K14 (f_X12_findByCost_L45 K7 K14 Z Q n) Z Q v0 v1 v2 v3 v4 v5 I L)))))))))))
set_option maxHeartbeats 4000000 in
set_option maxRecDepth 100000 in
theorem m_X12_findByCost_L45 {G : jG} {Z : jZ} {Q : jI → jL → Prop} (E : jE G cX12_findByCost RX12 w_X12_findByCost 8 none { frames := 1, cells := 0, slots := 0, locals := 23 } (rtV Z Q)) (hZ : SH Z) (K7 : Nat → Int32 → Int32 → jI → jL → Prop) (hK7 : ∀ (v0 : Nat) (v1 : Int32) (v2 : Int32) (I : jI) (L : jL), jk Z v0 12 → K7 v0 v1 v2 I L → jJ G 8 7 [(0, .ref v0), (1, .int v1), (2, .int v2)] [] Z I L 0 0) (K14 : Nat → Int32 → Int32 → Int32 → jI → jL → Prop) (hK14 : ∀ (v0 : Nat) (v1 : Int32) (v2 : Int32) (v3 : Int32) (I : jI) (L : jL), jk Z v0 12 → K14 v0 v1 v2 v3 I L → jJ G 8 14 [(0, .ref v0), (1, .int v1), (2, .int v2), (3, .int v3)] [] Z I L 0 0) : ∀ (n : Nat) (v0 : Nat) (v1 : Int32) (v2 : Int32) (v3 : Int32) (v4 : Int32) (v5 : Int32) (I : jI) (L : jL), jk Z v0 12 → f_X12_findByCost_L45 K7 K14 Z Q n v0 v1 v2 v3 v4 v5 I L → jJ G 8 45 [(0, .ref v0), (1, .int v1), (2, .int v2), (3, .int v3), (4, .int v4), (5, .int v5)] [] Z I L 0 0 := by
  intro n
  induction n with
  | zero => intro v0 v1 v2 v3 v4 v5 I L _ h; exact h.elim
  | succ n ih =>
    intro v0 v1 v2 v3 v4 v5 I L kv0 h
    have h : (((3 : Int32) < v5 → (∀ b3 : Nat, jr Z v0 40 = some b3 → (vp_in (((1000 : Int32) * (v2 + (1 : Int32))) + v3) 25000 ∧ (∀ I5 : jI, I5 = jpI I b3 (((1000 : Int32) * (v2 + (1 : Int32))) + v3).toNatClampNeg v4 → (∀ x6 : Int32, x6 = v3 + 1 → K14 v0 v1 v2 x6 I5 L))))) ∧ (¬ ((3 : Int32) < v5) → (∀ x7 : Int32, x7 = ((((3 : Int32) * (v2 + (1 : Int32))) + v5) - (1 : Int32)) → (∀ b8 : Nat, jr Z v0 37 = some b8 → (vp_in x7 75 ∧ (((I b8 x7.toNatClampNeg) = (1000000000 : Int32) → f_X12_findByCost_b142 K7 K14 (f_X12_findByCost_L45 K7 K14 Z Q n) Z Q v0 v1 v2 v3 v4 v5 I L) ∧ (¬ ((I b8 x7.toNatClampNeg) = (1000000000 : Int32)) → (∀ b11 : Nat, jr Z v0 37 = some b11 → (vp_in x7 75 ∧ (((I b11 x7.toNatClampNeg) ≤ v3 → (∀ b14 : Nat, jr Z v0 40 = some b14 → (∀ b15 : Nat, jr Z v0 37 = some b15 → (vp_in x7 75 ∧ (vp_in ((((1000 : Int32) * ((v2 + v5) + (1 : Int32))) + v3) - (I b15 x7.toNatClampNeg)) 25000 ∧ (∀ x18 : Int32, x18 = (I b14 ((((1000 : Int32) * ((v2 + v5) + (1 : Int32))) + v3) - (I b15 x7.toNatClampNeg)).toNatClampNeg) → ((x18 = (1000000000 : Int32) → f_X12_findByCost_b142 K7 K14 (f_X12_findByCost_L45 K7 K14 Z Q n) Z Q v0 v1 v2 v3 v4 v5 I L) ∧ (¬ (x18 = (1000000000 : Int32)) → (∀ b20 : Nat, jr Z v0 38 = some b20 → (vp_in x7 75 ∧ (∀ x22 : Int32, x22 = (if (x18 + (I b20 x7.toNatClampNeg)) < v4 then (x18 + (I b20 x7.toNatClampNeg)) else v4) → f_X12_findByCost_b142 K7 K14 (f_X12_findByCost_L45 K7 K14 Z Q n) Z Q v0 v1 v2 v3 x22 v5 I L))))))))))) ∧ (¬ ((I b11 x7.toNatClampNeg) ≤ v3) → f_X12_findByCost_b142 K7 K14 (f_X12_findByCost_L45 K7 K14 Z Q n) Z Q v0 v1 v2 v3 v4 v5 I L))))))))))) := h
    obtain ⟨K45, eK45⟩ : ∃ K : Nat → Int32 → Int32 → Int32 → Int32 → Int32 → jI → jL → Prop, K = f_X12_findByCost_L45 K7 K14 Z Q n := ⟨_, rfl⟩
    have hK45 := ih
    clear eK45 K45
    generalize f_X12_findByCost_L45 K7 K14 Z Q n = K45 at hK45 h
    refine j_iload E dX12_findByCost_45 5 rfl ?_
    refine j_iconst E (v := 3) dX12_findByCost_47 (by decide) ?_
    refine j_icmp_gt E 148 dX12_findByCost_48 (by decide) (fun c2 => ?_) (fun c2 => ?_)
    · have h := h.1 c2
      refine j_aload_n E dX12_findByCost_148 0 rfl ?_
      obtain ⟨b3, eb3, kb3, lb3⟩ := sh_f hZ kv0 (j := 40) (k := 14) (m := 25000) rfl
      have h := h b3 eb3
      refine j_getr E 12 40 rfl rfl (by decide) (by decide) (iw iT_12) rfl rfl (tw W_810) kv0 eb3 dX12_findByCost_149 ?_
      refine j_sipush E (v := 1000) dX12_findByCost_152 (by decide) ?_
      refine j_iload_n E dX12_findByCost_155 2 rfl ?_
      refine j_iconst E (v := 1) dX12_findByCost_156 (by decide) ?_
      refine j_iadd E dX12_findByCost_157 ?_
      refine j_imul E dX12_findByCost_158 ?_
      refine j_iload_n E dX12_findByCost_159 3 rfl ?_
      refine j_iadd E dX12_findByCost_160 ?_
      refine j_iload E dX12_findByCost_161 4 rfl ?_
      obtain ⟨o4, h⟩ := h
      refine j_iast E kb3 (by rw [lb3]; exact o4) dX12_findByCost_163 ?_
      refine j_nmI (fun I5 eI5 => ?_)
      have h := h I5 eI5
      obtain ⟨x6, ex6⟩ : ∃ y : Int32, y = v3 + 1 := ⟨_, rfl⟩
      have h := h x6 ex6
      refine j_iinc E x6 [(3, .int x6), (0, .ref v0), (1, .int v1), (2, .int v2), (4, .int v4), (5, .int v5)] dX12_findByCost_164 3 rfl (by rw [ex6]; rfl) (by decide) rfl ?_
      refine j_goto E 14 dX12_findByCost_167 (by decide) ?_
      refine j_sub [1, 2, 3, 0] rfl ?_
      exact hK14 v0 v1 v2 x6 I5 L kv0 h
    · have h := h.2 c2
      refine j_iconst E (v := 3) dX12_findByCost_51 (by decide) ?_
      refine j_iload_n E dX12_findByCost_52 2 rfl ?_
      refine j_iconst E (v := 1) dX12_findByCost_53 (by decide) ?_
      refine j_iadd E dX12_findByCost_54 ?_
      refine j_imul E dX12_findByCost_55 ?_
      refine j_iload E dX12_findByCost_56 5 rfl ?_
      refine j_iadd E dX12_findByCost_58 ?_
      refine j_iconst E (v := 1) dX12_findByCost_59 (by decide) ?_
      refine j_isub E dX12_findByCost_60 ?_
      refine j_topi (fun x7 ex7 => ?_)
      have h := h x7 ex7
      refine j_istore E 6 [(6, .int x7), (0, .ref v0), (1, .int v1), (2, .int v2), (3, .int v3), (4, .int v4), (5, .int v5)] dX12_findByCost_61 (by decide) rfl ?_
      refine j_aload_n E dX12_findByCost_63 1 rfl ?_
      obtain ⟨b8, eb8, kb8, lb8⟩ := sh_f hZ kv0 (j := 37) (k := 14) (m := 75) rfl
      have h := h b8 eb8
      refine j_getr E 12 37 rfl rfl (by decide) (by decide) (iw iT_12) rfl rfl (tw W_806) kv0 eb8 dX12_findByCost_64 ?_
      refine j_iload E dX12_findByCost_67 0 rfl ?_
      obtain ⟨o9, h⟩ := h
      refine j_iald E kb8 (by rw [lb8]; exact o9) dX12_findByCost_69 ?_
      refine j_ldcw E (tw W_807) dX12_findByCost_70 ?_
      refine j_icmp_eq E 142 dX12_findByCost_73 (by decide) (fun c10 => ?_) (fun c10 => ?_)
      · have h := h.1 c10
        refine j_sub [1, 2, 3, 4, 5, 6] rfl ?_
        exact m_X12_findByCost_b142 E hZ K7 hK7 K14 hK14 K45 hK45 v0 v1 v2 v3 v4 v5 I L kv0 h
      · have h := h.2 c10
        refine j_aload_n E dX12_findByCost_76 1 rfl ?_
        obtain ⟨b11, eb11, kb11, lb11⟩ := sh_f hZ kv0 (j := 37) (k := 14) (m := 75) rfl
        have h := h b11 eb11
        refine j_getr E 12 37 rfl rfl (by decide) (by decide) (iw iT_12) rfl rfl (tw W_806) kv0 eb11 dX12_findByCost_77 ?_
        refine j_iload E dX12_findByCost_80 0 rfl ?_
        obtain ⟨o12, h⟩ := h
        refine j_iald E kb11 (by rw [lb11]; exact o12) dX12_findByCost_82 ?_
        refine j_iload_n E dX12_findByCost_83 4 rfl ?_
        refine j_icmp_le E 90 dX12_findByCost_84 (by decide) (fun c13 => ?_) (fun c13 => ?_)
        · have h := h.1 c13
          refine j_aload_n E dX12_findByCost_90 1 rfl ?_
          obtain ⟨b14, eb14, kb14, lb14⟩ := sh_f hZ kv0 (j := 40) (k := 14) (m := 25000) rfl
          have h := h b14 eb14
          refine j_getr E 12 40 rfl rfl (by decide) (by decide) (iw iT_12) rfl rfl (tw W_810) kv0 eb14 dX12_findByCost_91 ?_
          refine j_sipush E (v := 1000) dX12_findByCost_94 (by decide) ?_
          refine j_iload_n E dX12_findByCost_97 3 rfl ?_
          refine j_iload E dX12_findByCost_98 6 rfl ?_
          refine j_iadd E dX12_findByCost_100 ?_
          refine j_iconst E (v := 1) dX12_findByCost_101 (by decide) ?_
          refine j_iadd E dX12_findByCost_102 ?_
          refine j_imul E dX12_findByCost_103 ?_
          refine j_iload_n E dX12_findByCost_104 4 rfl ?_
          refine j_iadd E dX12_findByCost_105 ?_
          refine j_aload_n E dX12_findByCost_106 1 rfl ?_
          obtain ⟨b15, eb15, kb15, lb15⟩ := sh_f hZ kv0 (j := 37) (k := 14) (m := 75) rfl
          have h := h b15 eb15
          refine j_getr E 12 37 rfl rfl (by decide) (by decide) (iw iT_12) rfl rfl (tw W_806) kv0 eb15 dX12_findByCost_107 ?_
          refine j_iload E dX12_findByCost_110 0 rfl ?_
          obtain ⟨o16, h⟩ := h
          refine j_iald E kb15 (by rw [lb15]; exact o16) dX12_findByCost_112 ?_
          refine j_isub E dX12_findByCost_113 ?_
          obtain ⟨o17, h⟩ := h
          refine j_iald E kb14 (by rw [lb14]; exact o17) dX12_findByCost_114 ?_
          refine j_topi (fun x18 ex18 => ?_)
          have h := h x18 ex18
          refine j_istore E 7 [(7, .int x18), (6, .int x7), (0, .ref v0), (1, .int v1), (2, .int v2), (3, .int v3), (4, .int v4), (5, .int v5)] dX12_findByCost_115 (by decide) rfl ?_
          refine j_iload E dX12_findByCost_117 0 rfl ?_
          refine j_ldcw E (tw W_807) dX12_findByCost_119 ?_
          refine j_icmp_eq E 142 dX12_findByCost_122 (by decide) (fun c19 => ?_) (fun c19 => ?_)
          · have h := h.1 c19
            refine j_sub [2, 3, 4, 5, 6, 7] rfl ?_
            exact m_X12_findByCost_b142 E hZ K7 hK7 K14 hK14 K45 hK45 v0 v1 v2 v3 v4 v5 I L kv0 h
          · have h := h.2 c19
            refine j_iload E dX12_findByCost_125 6 rfl ?_
            refine j_iload E dX12_findByCost_127 0 rfl ?_
            refine j_aload_n E dX12_findByCost_129 2 rfl ?_
            obtain ⟨b20, eb20, kb20, lb20⟩ := sh_f hZ kv0 (j := 38) (k := 14) (m := 75) rfl
            have h := h b20 eb20
            refine j_getr E 12 38 rfl rfl (by decide) (by decide) (iw iT_12) rfl rfl (tw W_809) kv0 eb20 dX12_findByCost_130 ?_
            refine j_iload E dX12_findByCost_133 1 rfl ?_
            obtain ⟨o21, h⟩ := h
            refine j_iald E kb20 (by rw [lb20]; exact o21) dX12_findByCost_135 ?_
            refine j_iadd E dX12_findByCost_136 ?_
            refine j_min E (tw W_755) (tw W_118) (tw W_119) (tw W_120) (by decide) (Nat.le_of_ble_eq_true rfl) (Nat.zero_le _) (Nat.zero_le _) dX12_findByCost_137 ?_
            refine j_topi (fun x22 ex22 => ?_)
            have h := h x22 ex22
            refine j_istore E 4 [(4, .int x22), (7, .int x18), (6, .int x7), (0, .ref v0), (1, .int v1), (2, .int v2), (3, .int v3), (5, .int v5)] dX12_findByCost_140 (by decide) rfl ?_
            refine j_sub [3, 4, 5, 6, 0, 7] rfl ?_
            exact m_X12_findByCost_b142 E hZ K7 hK7 K14 hK14 K45 hK45 v0 v1 v2 v3 x22 v5 I L kv0 h
        · have h := h.2 c13
          refine j_goto E 142 dX12_findByCost_87 (by decide) ?_
          refine j_sub [1, 2, 3, 4, 5, 6] rfl ?_
          exact m_X12_findByCost_b142 E hZ K7 hK7 K14 hK14 K45 hK45 v0 v1 v2 v3 v4 v5 I L kv0 h
set_option maxRecDepth 100000 in
def f_X12_findByCost_b40 (K7 : Nat → Int32 → Int32 → jI → jL → Prop) (K14 : Nat → Int32 → Int32 → Int32 → jI → jL → Prop) (Z : jZ) (Q : jI → jL → Prop) (v0 : Nat) (v1 : Int32) (v2 : Int32) (v3 : Int32) (s0 : Int32) (I : jI) (L : jL) : Prop := (∃ m45 : Nat, f_X12_findByCost_L45 K7 K14 Z Q m45 v0 v1 v2 v3 s0 (1 : Int32) I L)
set_option maxHeartbeats 4000000 in
set_option maxRecDepth 100000 in
theorem m_X12_findByCost_b40 {G : jG} {Z : jZ} {Q : jI → jL → Prop} (E : jE G cX12_findByCost RX12 w_X12_findByCost 8 none { frames := 1, cells := 0, slots := 0, locals := 23 } (rtV Z Q)) (hZ : SH Z) (K7 : Nat → Int32 → Int32 → jI → jL → Prop) (hK7 : ∀ (v0 : Nat) (v1 : Int32) (v2 : Int32) (I : jI) (L : jL), jk Z v0 12 → K7 v0 v1 v2 I L → jJ G 8 7 [(0, .ref v0), (1, .int v1), (2, .int v2)] [] Z I L 0 0) (K14 : Nat → Int32 → Int32 → Int32 → jI → jL → Prop) (hK14 : ∀ (v0 : Nat) (v1 : Int32) (v2 : Int32) (v3 : Int32) (I : jI) (L : jL), jk Z v0 12 → K14 v0 v1 v2 v3 I L → jJ G 8 14 [(0, .ref v0), (1, .int v1), (2, .int v2), (3, .int v3)] [] Z I L 0 0) (v0 : Nat) (v1 : Int32) (v2 : Int32) (v3 : Int32) (s0 : Int32) (I : jI) (L : jL) (kv0 : jk Z v0 12) (h : f_X12_findByCost_b40 K7 K14 Z Q v0 v1 v2 v3 s0 I L) : jJ G 8 40 [(0, .ref v0), (1, .int v1), (2, .int v2), (3, .int v3)] [.int s0] Z I L 0 0 := by
  refine j_istore E 4 [(4, .int s0), (0, .ref v0), (1, .int v1), (2, .int v2), (3, .int v3)] dX12_findByCost_40 (by decide) rfl ?_
  refine j_iconst E (v := 1) dX12_findByCost_42 (by decide) ?_
  refine j_istore E 5 [(5, .int (1 : Int32)), (4, .int s0), (0, .ref v0), (1, .int v1), (2, .int v2), (3, .int v3)] dX12_findByCost_43 (by decide) rfl ?_
  obtain ⟨n23, h⟩ := h
  refine j_sub [2, 3, 4, 5, 1, 0] rfl ?_
  exact m_X12_findByCost_L45 E hZ K7 hK7 K14 hK14 n23 v0 v1 v2 v3 s0 (1 : Int32) I L kv0 h
set_option maxRecDepth 100000 in
def f_X12_findByCost_b37 (K7 : Nat → Int32 → Int32 → jI → jL → Prop) (K14 : Nat → Int32 → Int32 → Int32 → jI → jL → Prop) (Z : jZ) (Q : jI → jL → Prop) (v0 : Nat) (v1 : Int32) (v2 : Int32) (v3 : Int32) (I : jI) (L : jL) : Prop := f_X12_findByCost_b40 K7 K14 Z Q v0 v1 v2 v3 (1000000000 : Int32) I L
set_option maxHeartbeats 4000000 in
set_option maxRecDepth 100000 in
theorem m_X12_findByCost_b37 {G : jG} {Z : jZ} {Q : jI → jL → Prop} (E : jE G cX12_findByCost RX12 w_X12_findByCost 8 none { frames := 1, cells := 0, slots := 0, locals := 23 } (rtV Z Q)) (hZ : SH Z) (K7 : Nat → Int32 → Int32 → jI → jL → Prop) (hK7 : ∀ (v0 : Nat) (v1 : Int32) (v2 : Int32) (I : jI) (L : jL), jk Z v0 12 → K7 v0 v1 v2 I L → jJ G 8 7 [(0, .ref v0), (1, .int v1), (2, .int v2)] [] Z I L 0 0) (K14 : Nat → Int32 → Int32 → Int32 → jI → jL → Prop) (hK14 : ∀ (v0 : Nat) (v1 : Int32) (v2 : Int32) (v3 : Int32) (I : jI) (L : jL), jk Z v0 12 → K14 v0 v1 v2 v3 I L → jJ G 8 14 [(0, .ref v0), (1, .int v1), (2, .int v2), (3, .int v3)] [] Z I L 0 0) (v0 : Nat) (v1 : Int32) (v2 : Int32) (v3 : Int32) (I : jI) (L : jL) (kv0 : jk Z v0 12) (h : f_X12_findByCost_b37 K7 K14 Z Q v0 v1 v2 v3 I L) : jJ G 8 37 [(0, .ref v0), (1, .int v1), (2, .int v2), (3, .int v3)] [] Z I L 0 0 := by
  refine j_ldcw E (tw W_807) dX12_findByCost_37 ?_
  refine j_sub [0, 1, 2, 3] rfl ?_
  exact m_X12_findByCost_b40 E hZ K7 hK7 K14 hK14 v0 v1 v2 v3 (1000000000 : Int32) I L kv0 h
set_option maxRecDepth 100000 in
def f_X12_findByCost_L14 (K7 : Nat → Int32 → Int32 → jI → jL → Prop) (Z : jZ) (Q : jI → jL → Prop) : Nat → Nat → Int32 → Int32 → Int32 → jI → jL → Prop
  | 0 => fun _ _ _ _ _ _ => False
  | n + 1 => fun v0 v1 v2 v3 I L => ((v1 < v3 → (∀ x25 : Int32, x25 = v2 + (-1) → K7 v0 v1 x25 I L)) ∧ (¬ (v1 < v3) → ((¬ v2 = ((I v0 0) - (1 : Int32)) → f_X12_findByCost_b37 K7 (f_X12_findByCost_L14 K7 Z Q n) Z Q v0 v1 v2 v3 I L) ∧ (v2 = ((I v0 0) - (1 : Int32)) → ((¬ v3 = 0 → f_X12_findByCost_b37 K7 (f_X12_findByCost_L14 K7 Z Q n) Z Q v0 v1 v2 v3 I L) ∧ (v3 = 0 → f_X12_findByCost_b40 K7 (f_X12_findByCost_L14 K7 Z Q n) Z Q v0 v1 v2 v3 (0 : Int32) I L))))))
set_option maxHeartbeats 4000000 in
set_option maxRecDepth 100000 in
theorem m_X12_findByCost_L14 {G : jG} {Z : jZ} {Q : jI → jL → Prop} (E : jE G cX12_findByCost RX12 w_X12_findByCost 8 none { frames := 1, cells := 0, slots := 0, locals := 23 } (rtV Z Q)) (hZ : SH Z) (K7 : Nat → Int32 → Int32 → jI → jL → Prop) (hK7 : ∀ (v0 : Nat) (v1 : Int32) (v2 : Int32) (I : jI) (L : jL), jk Z v0 12 → K7 v0 v1 v2 I L → jJ G 8 7 [(0, .ref v0), (1, .int v1), (2, .int v2)] [] Z I L 0 0) : ∀ (n : Nat) (v0 : Nat) (v1 : Int32) (v2 : Int32) (v3 : Int32) (I : jI) (L : jL), jk Z v0 12 → f_X12_findByCost_L14 K7 Z Q n v0 v1 v2 v3 I L → jJ G 8 14 [(0, .ref v0), (1, .int v1), (2, .int v2), (3, .int v3)] [] Z I L 0 0 := by
  intro n
  induction n with
  | zero => intro v0 v1 v2 v3 I L _ h; exact h.elim
  | succ n ih =>
    intro v0 v1 v2 v3 I L kv0 h
    have h : ((v1 < v3 → (∀ x25 : Int32, x25 = v2 + (-1) → K7 v0 v1 x25 I L)) ∧ (¬ (v1 < v3) → ((¬ v2 = ((I v0 0) - (1 : Int32)) → f_X12_findByCost_b37 K7 (f_X12_findByCost_L14 K7 Z Q n) Z Q v0 v1 v2 v3 I L) ∧ (v2 = ((I v0 0) - (1 : Int32)) → ((¬ v3 = 0 → f_X12_findByCost_b37 K7 (f_X12_findByCost_L14 K7 Z Q n) Z Q v0 v1 v2 v3 I L) ∧ (v3 = 0 → f_X12_findByCost_b40 K7 (f_X12_findByCost_L14 K7 Z Q n) Z Q v0 v1 v2 v3 (0 : Int32) I L)))))) := h
    obtain ⟨K14, eK14⟩ : ∃ K : Nat → Int32 → Int32 → Int32 → jI → jL → Prop, K = f_X12_findByCost_L14 K7 Z Q n := ⟨_, rfl⟩
    have hK14 := ih
    clear eK14 K14
    generalize f_X12_findByCost_L14 K7 Z Q n = K14 at hK14 h
    refine j_iload_n E dX12_findByCost_14 3 rfl ?_
    refine j_iload_n E dX12_findByCost_15 1 rfl ?_
    refine j_icmp_gt E 170 dX12_findByCost_16 (by decide) (fun c24 => ?_) (fun c24 => ?_)
    · have h := h.1 c24
      obtain ⟨x25, ex25⟩ : ∃ y : Int32, y = v2 + (-1) := ⟨_, rfl⟩
      have h := h x25 ex25
      refine j_iinc E x25 [(2, .int x25), (0, .ref v0), (1, .int v1), (3, .int v3)] dX12_findByCost_170 2 rfl (by rw [ex25]; rfl) (by decide) rfl ?_
      refine j_goto E 7 dX12_findByCost_173 (by decide) ?_
      refine j_sub [1, 2, 0] rfl ?_
      exact hK7 v0 v1 x25 I L kv0 h
    · have h := h.2 c24
      refine j_iload_n E dX12_findByCost_19 2 rfl ?_
      refine j_aload_n E dX12_findByCost_20 0 rfl ?_
      refine j_geti E 12 0 rfl rfl (by decide) (by decide) (iw iT_12) rfl rfl (tw W_677) kv0 dX12_findByCost_21 ?_
      refine j_iconst E (v := 1) dX12_findByCost_24 (by decide) ?_
      refine j_isub E dX12_findByCost_25 ?_
      refine j_icmp_ne E 37 dX12_findByCost_26 (by decide) (fun c26 => ?_) (fun c26 => ?_)
      · have h := h.1 c26
        refine j_sub [0, 1, 2, 3] rfl ?_
        exact m_X12_findByCost_b37 E hZ K7 hK7 K14 hK14 v0 v1 v2 v3 I L kv0 h
      · have h := h.2 c26
        refine j_iload_n E dX12_findByCost_29 3 rfl ?_
        refine j_if_ne E 37 dX12_findByCost_30 (by decide) (fun c27 => ?_) (fun c27 => ?_)
        · have h := h.1 c27
          refine j_sub [0, 1, 2, 3] rfl ?_
          exact m_X12_findByCost_b37 E hZ K7 hK7 K14 hK14 v0 v1 v2 v3 I L kv0 h
        · have h := h.2 c27
          refine j_iconst E (v := 0) dX12_findByCost_33 (by decide) ?_
          refine j_goto E 40 dX12_findByCost_34 (by decide) ?_
          refine j_sub [0, 1, 2, 3] rfl ?_
          exact m_X12_findByCost_b40 E hZ K7 hK7 K14 hK14 v0 v1 v2 v3 (0 : Int32) I L kv0 h
set_option maxRecDepth 100000 in
def f_X12_findByCost_L7  (Z : jZ) (Q : jI → jL → Prop) : Nat → Nat → Int32 → Int32 → jI → jL → Prop
  | 0 => fun _ _ _ _ _ => False
  | n + 1 => fun v0 v1 v2 I L => ((v2 < (-1 : Int32) → Q I L) ∧ (¬ (v2 < (-1 : Int32)) → (∃ m14 : Nat, f_X12_findByCost_L14 (f_X12_findByCost_L7 Z Q n) Z Q m14 v0 v1 v2 (0 : Int32) I L)))
set_option maxHeartbeats 4000000 in
set_option maxRecDepth 100000 in
theorem m_X12_findByCost_L7 {G : jG} {Z : jZ} {Q : jI → jL → Prop} (E : jE G cX12_findByCost RX12 w_X12_findByCost 8 none { frames := 1, cells := 0, slots := 0, locals := 23 } (rtV Z Q)) (hZ : SH Z)  : ∀ (n : Nat) (v0 : Nat) (v1 : Int32) (v2 : Int32) (I : jI) (L : jL), jk Z v0 12 → f_X12_findByCost_L7  Z Q n v0 v1 v2 I L → jJ G 8 7 [(0, .ref v0), (1, .int v1), (2, .int v2)] [] Z I L 0 0 := by
  intro n
  induction n with
  | zero => intro v0 v1 v2 I L _ h; exact h.elim
  | succ n ih =>
    intro v0 v1 v2 I L kv0 h
    have h : ((v2 < (-1 : Int32) → Q I L) ∧ (¬ (v2 < (-1 : Int32)) → (∃ m14 : Nat, f_X12_findByCost_L14 (f_X12_findByCost_L7 Z Q n) Z Q m14 v0 v1 v2 (0 : Int32) I L))) := h
    obtain ⟨K7, eK7⟩ : ∃ K : Nat → Int32 → Int32 → jI → jL → Prop, K = f_X12_findByCost_L7  Z Q n := ⟨_, rfl⟩
    have hK7 := ih
    clear eK7 K7
    generalize f_X12_findByCost_L7  Z Q n = K7 at hK7 h
    refine j_iload_n E dX12_findByCost_7 2 rfl ?_
    refine j_iconst E (v := -1) dX12_findByCost_8 (by decide) ?_
    refine j_icmp_lt E 176 dX12_findByCost_9 (by decide) (fun c28 => ?_) (fun c28 => ?_)
    · have h := h.1 c28
      exact j_return E ⟨rfl, rfl, h⟩ (Nat.zero_le _) (Nat.zero_le _) dX12_findByCost_176
    · have h := h.2 c28
      refine j_iconst E (v := 0) dX12_findByCost_12 (by decide) ?_
      refine j_istore_n E 3 [(3, .int (0 : Int32)), (0, .ref v0), (1, .int v1), (2, .int v2)] dX12_findByCost_13 rfl (by decide) rfl ?_
      obtain ⟨n29, h⟩ := h
      refine j_sub [1, 2, 3, 0] rfl ?_
      exact m_X12_findByCost_L14 E hZ K7 hK7 n29 v0 v1 v2 (0 : Int32) I L kv0 h
set_option maxRecDepth 100000 in
def f_X12_findByCost (v0 : Nat) (v1 : Int32) (Z : jZ) (I : jI) (L : jL) (Q : jI → jL → Prop) : Prop := (∀ x30 : Int32, x30 = ((I v0 0) - (1 : Int32)) → (∃ m7 : Nat, f_X12_findByCost_L7  Z Q m7 v0 v1 x30 I L))
set_option maxHeartbeats 4000000 in
set_option maxRecDepth 100000 in
theorem c_X12_findByCost (l : Launch) (D : va_G) (cy : jC) (v0 : Nat) (v1 : Int32) (Z : jZ) (I : jI) (L : jL) (Q : jI → jL → Prop) (hZ : SH Z) (kv0 : jk Z v0 12) (h : f_X12_findByCost v0 v1 Z I L Q) : jCt l yX12_findByCost w_X12_findByCost { frames := 1, cells := 0, slots := 0, locals := 23 } D cy [.ref v0, .int v1] Z I L (rtV Z Q) := by
  refine jCt_of (cc := cX12_findByCost) (maxL := 8) (ret := none) (by decide +kernel) rfl (Nat.le_of_ble_eq_true rfl) ?_
  intro G eD eY eL E
  subst eD; subst eY; subst eL
  have E : jE G cX12_findByCost RX12 w_X12_findByCost 8 none { frames := 1, cells := 0, slots := 0, locals := 23 } (rtV Z Q) := E
  show jJ G 8 0 [(0, .ref v0), (1, .int v1)] [] Z I L 0 0
  refine j_aload_n E dX12_findByCost_0 0 rfl ?_
  refine j_geti E 12 0 rfl rfl (by decide) (by decide) (iw iT_12) rfl rfl (tw W_677) kv0 dX12_findByCost_1 ?_
  refine j_iconst E (v := 1) dX12_findByCost_4 (by decide) ?_
  refine j_isub E dX12_findByCost_5 ?_
  refine j_topi (fun x30 ex30 => ?_)
  have h := h x30 ex30
  refine j_istore_n E 2 [(2, .int x30), (0, .ref v0), (1, .int v1)] dX12_findByCost_6 rfl (by decide) rfl ?_
  obtain ⟨n31, h⟩ := h
  refine j_sub [1, 2, 0] rfl ?_
  exact m_X12_findByCost_L7 E hZ  n31 v0 v1 x30 I L kv0 h
set_option maxRecDepth 100000 in
def f_X12_next_L52  (Q : Int32 → jZ → jI → jL → Prop) : Nat → Nat → Int32 → Int32 → jZ → jI → jL → Prop
  | 0 => fun _ _ _ _ _ _ => False
  | n + 1 => fun v0 v1 v3 Z I L => (∀ b1 : Nat, jr Z v0 10 = some b1 → (vp_in v1 6 ∧ (((I b1 v1.toNatClampNeg) < v3 → Q (-2 : Int32) Z I L) ∧ (¬ ((I b1 v1.toNatClampNeg) < v3) → (∀ b4 : Nat, jr Z v0 40 = some b4 → (vp_in v3 25000 ∧ (∀ b6 : Nat, jr Z v0 9 = some b6 → (vp_in v1 6 ∧ (((I b4 v3.toNatClampNeg) ≤ (I b6 v1.toNatClampNeg) → (∀ I9 : jI, I9 = jpI I v0 21 (0 : Int32) → (∀ b10 : Nat, jr Z v0 40 = some b10 → (vp_in v3 25000 ∧ (f_X12_tell v0 ((I9 b10 v3.toNatClampNeg).toInt64) Z I9 L (fun I14 L15 => Q v3 Z I14 L15)))))) ∧ (¬ ((I b4 v3.toNatClampNeg) ≤ (I b6 v1.toNatClampNeg)) → (∀ x17 : Int32, x17 = v3 + 1 → (f_X12_next_L52 Q n) v0 v1 x17 Z I L)))))))))))
set_option maxHeartbeats 4000000 in
set_option maxRecDepth 100000 in
theorem m_X12_next_L52 {G : jG} {Z0 : jZ} {Q : Int32 → jZ → jI → jL → Prop} (E : jE G cX12_next RX12 w_X12_next 4 (some .int) { frames := 4, cells := 0, slots := 0, locals := 99 } (xrtI Z0 Q))  : ∀ (n : Nat) (v0 : Nat) (v1 : Int32) (v3 : Int32) (Z : jZ) (I : jI) (L : jL), SH Z → jext Z0 Z → jk Z v0 12 → f_X12_next_L52  Q n v0 v1 v3 Z I L → jJ G 4 52 [(0, .ref v0), (1, .int v1), (3, .int v3)] [] Z I L 0 0 := by
  intro n
  induction n with
  | zero => intro v0 v1 v3 Z I L _ _ _ h; exact h.elim
  | succ n ih =>
    intro v0 v1 v3 Z I L hZ hx kv0 h
    have h : (∀ b1 : Nat, jr Z v0 10 = some b1 → (vp_in v1 6 ∧ (((I b1 v1.toNatClampNeg) < v3 → Q (-2 : Int32) Z I L) ∧ (¬ ((I b1 v1.toNatClampNeg) < v3) → (∀ b4 : Nat, jr Z v0 40 = some b4 → (vp_in v3 25000 ∧ (∀ b6 : Nat, jr Z v0 9 = some b6 → (vp_in v1 6 ∧ (((I b4 v3.toNatClampNeg) ≤ (I b6 v1.toNatClampNeg) → (∀ I9 : jI, I9 = jpI I v0 21 (0 : Int32) → (∀ b10 : Nat, jr Z v0 40 = some b10 → (vp_in v3 25000 ∧ (f_X12_tell v0 ((I9 b10 v3.toNatClampNeg).toInt64) Z I9 L (fun I14 L15 => Q v3 Z I14 L15)))))) ∧ (¬ ((I b4 v3.toNatClampNeg) ≤ (I b6 v1.toNatClampNeg)) → (∀ x17 : Int32, x17 = v3 + 1 → (f_X12_next_L52 Q n) v0 v1 x17 Z I L))))))))))) := h
    obtain ⟨K52, eK52⟩ : ∃ K : Nat → Int32 → Int32 → jZ → jI → jL → Prop, K = f_X12_next_L52  Q n := ⟨_, rfl⟩
    have hK52 := ih
    clear eK52 K52
    generalize f_X12_next_L52  Q n = K52 at hK52 h
    refine j_iload_n E dX12_next_52 2 rfl ?_
    refine j_aload_n E dX12_next_53 0 rfl ?_
    obtain ⟨b1, eb1, kb1, lb1⟩ := sh_f hZ kv0 (j := 10) (k := 14) (m := 6) rfl
    have h := h b1 eb1
    refine j_getr E 12 10 rfl rfl (by decide) (by decide) (iw iT_12) rfl rfl (tw W_720) kv0 eb1 dX12_next_54 ?_
    refine j_iload_n E dX12_next_57 1 rfl ?_
    obtain ⟨o2, h⟩ := h
    refine j_iald E kb1 (by rw [lb1]; exact o2) dX12_next_58 ?_
    refine j_icmp_gt E 104 dX12_next_59 (by decide) (fun c3 => ?_) (fun c3 => ?_)
    · have h := h.1 c3
      refine j_bipush E (v := -2) dX12_next_104 (by decide) ?_
      exact j_ireturn E ⟨hx, hZ, _, rfl, h⟩ (Nat.zero_le _) (Nat.zero_le _) dX12_next_106
    · have h := h.2 c3
      refine j_aload_n E dX12_next_62 0 rfl ?_
      obtain ⟨b4, eb4, kb4, lb4⟩ := sh_f hZ kv0 (j := 40) (k := 14) (m := 25000) rfl
      have h := h b4 eb4
      refine j_getr E 12 40 rfl rfl (by decide) (by decide) (iw iT_12) rfl rfl (tw W_810) kv0 eb4 dX12_next_63 ?_
      refine j_iload_n E dX12_next_66 2 rfl ?_
      obtain ⟨o5, h⟩ := h
      refine j_iald E kb4 (by rw [lb4]; exact o5) dX12_next_67 ?_
      refine j_aload_n E dX12_next_68 0 rfl ?_
      obtain ⟨b6, eb6, kb6, lb6⟩ := sh_f hZ kv0 (j := 9) (k := 14) (m := 6) rfl
      have h := h b6 eb6
      refine j_getr E 12 9 rfl rfl (by decide) (by decide) (iw iT_12) rfl rfl (tw W_718) kv0 eb6 dX12_next_69 ?_
      refine j_iload_n E dX12_next_72 1 rfl ?_
      obtain ⟨o7, h⟩ := h
      refine j_iald E kb6 (by rw [lb6]; exact o7) dX12_next_73 ?_
      refine j_icmp_le E 80 dX12_next_74 (by decide) (fun c8 => ?_) (fun c8 => ?_)
      · have h := h.1 c8
        refine j_aload_n E dX12_next_80 0 rfl ?_
        refine j_iconst E (v := 0) dX12_next_81 (by decide) ?_
        refine j_puti E 12 21 rfl rfl (by decide) (by decide) (iw iT_12) tyX12_ok nmX12 rfl rfl (tw W_676) rfl rfl rfl kv0 dX12_next_82 ?_
        refine j_nmI (fun I9 eI9 => ?_)
        have h := h I9 eI9
        refine j_aload_n E dX12_next_85 0 rfl ?_
        refine j_aload_n E dX12_next_86 0 rfl ?_
        obtain ⟨b10, eb10, kb10, lb10⟩ := sh_f hZ kv0 (j := 40) (k := 14) (m := 25000) rfl
        have h := h b10 eb10
        refine j_getr E 12 40 rfl rfl (by decide) (by decide) (iw iT_12) rfl rfl (tw W_810) kv0 eb10 dX12_next_87 ?_
        refine j_iload_n E dX12_next_90 2 rfl ?_
        obtain ⟨o11, h⟩ := h
        refine j_iald E kb10 (by rw [lb10]; exact o11) dX12_next_91 ?_
        refine j_i2l E dX12_next_92 ?_
        refine j_callV E [.long ((I9 b10 v3.toNatClampNeg).toInt64)] [] (c_X12_tell (gL G) (gD G) (gY G) v0 ((I9 b10 v3.toNatClampNeg).toInt64) Z I9 L _ hZ kv0 h) (gwV W_784 W_785 W_786 W_679 W_783) rfl ⟨rfl, fy_X12_tell⟩ ⟨by decide, by decide⟩ (c := 12) rfl (by decide) kv0 rfl rfl (Nat.le_of_ble_eq_true rfl) ⟨Nat.zero_le _, Nat.zero_le _⟩ dX12_next_93 (fun v12 Z13 I14 L15 q16 => ?_)
        obtain ⟨rfl, rfl, h⟩ := q16
        show jJ G 4 96 [(0, .ref v0), (1, .int v1), (3, .int v3)] [] Z I14 L15 0 0
        refine j_iload_n E dX12_next_96 2 rfl ?_
        exact j_ireturn E ⟨hx, hZ, _, rfl, h⟩ (Nat.zero_le _) (Nat.zero_le _) dX12_next_97
      · have h := h.2 c8
        refine j_goto E 98 dX12_next_77 (by decide) ?_
        obtain ⟨x17, ex17⟩ : ∃ y : Int32, y = v3 + 1 := ⟨_, rfl⟩
        have h := h x17 ex17
        refine j_iinc E x17 [(3, .int x17), (0, .ref v0), (1, .int v1)] dX12_next_98 2 rfl (by rw [ex17]; rfl) (by decide) rfl ?_
        refine j_goto E 52 dX12_next_101 (by decide) ?_
        refine j_sub [1, 2, 0] rfl ?_
        exact hK52 v0 v1 x17 Z I L hZ hx kv0 h
set_option maxRecDepth 100000 in
def f_X12_next (v0 : Nat) (v1 : Int32) (v2 : Int32) (Z : jZ) (I : jI) (L : jL) (Q : Int32 → jZ → jI → jL → Prop) : Prop := (∀ I18 : jI, I18 = jpI I v0 22 (0 : Int32) → (f_X12_isOne v0 v1 Z I18 L (fun r24 I21 L22 => ((r24 = 0 → Q (-1 : Int32) Z I21 L22) ∧ (¬ (r24 = 0) → (((I21 v0 0) = 0 → Q (-1 : Int32) Z I21 L22) ∧ (¬ ((I21 v0 0) = 0) → (f_X12_in v2 (-1 : Int32) (998 : Int32) Z I21 L22 (fun r32 I29 L30 => ((¬ r32 = 0 → (f_X12_layMoves v0 v1 Z I29 L30 (fun Z35 I36 L37 => (∀ b40 : Nat, jr Z35 v0 10 = some b40 → (vp_in v1 6 ∧ (f_X12_findByCost v0 (I36 b40 v1.toNatClampNeg) Z35 I36 L37 (fun I44 L45 => (∀ x47 : Int32, x47 = (v2 + (1 : Int32)) → (∃ m52 : Nat, f_X12_next_L52  Q m52 v0 v1 x47 Z35 I44 L45))))))))) ∧ (r32 = 0 → Q (-1 : Int32) Z I29 L30)))))))))))
set_option maxHeartbeats 4000000 in
set_option maxRecDepth 100000 in
theorem c_X12_next (l : Launch) (D : va_G) (cy : jC) (v0 : Nat) (v1 : Int32) (v2 : Int32) (Z : jZ) (I : jI) (L : jL) (Q : Int32 → jZ → jI → jL → Prop) (hZ : SH Z) (kv0 : jk Z v0 12) (h : f_X12_next v0 v1 v2 Z I L Q) : jCt l yX12_next w_X12_next { frames := 4, cells := 0, slots := 0, locals := 99 } D cy [.ref v0, .int v1, .int v2] Z I L (xrtI Z Q) := by
  refine jCt_of (cc := cX12_next) (maxL := 4) (ret := (some .int)) (by decide +kernel) rfl (Nat.le_of_ble_eq_true rfl) ?_
  intro G eD eY eL E
  subst eD; subst eY; subst eL
  have E : jE G cX12_next RX12 w_X12_next 4 (some .int) { frames := 4, cells := 0, slots := 0, locals := 99 } (xrtI Z Q) := E
  have hx : jext Z Z := jext_rfl
  show jJ G 4 0 [(0, .ref v0), (1, .int v1), (2, .int v2)] [] Z I L 0 0
  refine j_aload_n E dX12_next_0 0 rfl ?_
  refine j_iconst E (v := 0) dX12_next_1 (by decide) ?_
  refine j_puti E 12 22 rfl rfl (by decide) (by decide) (iw iT_12) tyX12_ok nmX12 rfl rfl (tw W_674) rfl rfl rfl kv0 dX12_next_2 ?_
  refine j_nmI (fun I18 eI18 => ?_)
  have h := h I18 eI18
  refine j_aload_n E dX12_next_5 0 rfl ?_
  refine j_iload_n E dX12_next_6 1 rfl ?_
  refine j_callV E [.int v1] [] (c_X12_isOne (gL G) (gD G) (gY G) v0 v1 Z I18 L _ hZ kv0 h) (gwV W_768 W_769 W_770 W_679 W_767) rfl ⟨rfl, fy_X12_isOne⟩ ⟨by decide, by decide⟩ (c := 12) rfl (by decide) kv0 rfl rfl (Nat.le_of_ble_eq_true rfl) ⟨Nat.zero_le _, Nat.zero_le _⟩ dX12_next_7 (fun v19 Z20 I21 L22 q23 => ?_)
  obtain ⟨rfl, r24, rfl, zr24, h⟩ := q23
  show jJ G 4 10 [(0, .ref v0), (1, .int v1), (2, .int v2)] [.int r24] Z I21 L22 0 0
  refine j_if_eq E 31 dX12_next_10 (by decide) (fun c25 => ?_) (fun c25 => ?_)
  · have h := h.1 c25
    refine j_iconst E (v := -1) dX12_next_31 (by decide) ?_
    exact j_ireturn E ⟨hx, hZ, _, rfl, h⟩ (Nat.zero_le _) (Nat.zero_le _) dX12_next_32
  · have h := h.2 c25
    refine j_aload_n E dX12_next_13 0 rfl ?_
    refine j_geti E 12 0 rfl rfl (by decide) (by decide) (iw iT_12) rfl rfl (tw W_677) kv0 dX12_next_14 ?_
    refine j_if_eq E 31 dX12_next_17 (by decide) (fun c26 => ?_) (fun c26 => ?_)
    · have h := h.1 c26
      refine j_iconst E (v := -1) dX12_next_31 (by decide) ?_
      exact j_ireturn E ⟨hx, hZ, _, rfl, h⟩ (Nat.zero_le _) (Nat.zero_le _) dX12_next_32
    · have h := h.2 c26
      refine j_iload_n E dX12_next_20 2 rfl ?_
      refine j_iconst E (v := -1) dX12_next_21 (by decide) ?_
      refine j_sipush E (v := 998) dX12_next_22 (by decide) ?_
      refine j_callS E [.int v2, .int (-1 : Int32), .int (998 : Int32)] [] (c_X12_in (gL G) (gD G) (gY G) v2 (-1 : Int32) (998 : Int32) Z I21 L22 _ hZ  h) (gwS W_680 W_681 W_679 W_678) rfl fy_X12_in ⟨by decide, by decide⟩ rfl rfl (Nat.le_of_ble_eq_true rfl) ⟨Nat.zero_le _, Nat.zero_le _⟩ dX12_next_25 (fun v27 Z28 I29 L30 q31 => ?_)
      obtain ⟨rfl, r32, rfl, zr32, h⟩ := q31
      show jJ G 4 28 [(0, .ref v0), (1, .int v1), (2, .int v2)] [.int r32] Z I29 L30 0 0
      refine j_if_ne E 33 dX12_next_28 (by decide) (fun c33 => ?_) (fun c33 => ?_)
      · have h := h.1 c33
        refine j_aload_n E dX12_next_33 0 rfl ?_
        refine j_iload_n E dX12_next_34 1 rfl ?_
        refine j_callV E [.int v1] [] (c_X12_layMoves (gL G) (gD G) (gY G) v0 v1 Z I29 L30 _ hZ kv0 h) (gwV W_820 W_821 W_822 W_679 W_819) rfl ⟨rfl, fy_X12_layMoves⟩ ⟨by decide, by decide⟩ (c := 12) rfl (by decide) kv0 rfl rfl (Nat.le_of_ble_eq_true rfl) ⟨Nat.zero_le _, Nat.zero_le _⟩ dX12_next_35 (fun v34 Z35 I36 L37 q38 => ?_)
        obtain ⟨yZ35, hZ35, rfl, h⟩ := q38
        have hZ := hZ35
        have hx : jext Z Z35 := jext_trans hx yZ35
        have k39 := (yZ35 _ _ kv0).1
        show jJ G 4 38 [(0, .ref v0), (1, .int v1), (2, .int v2)] [] Z35 I36 L37 0 0
        refine j_aload_n E dX12_next_38 0 rfl ?_
        refine j_aload_n E dX12_next_39 0 rfl ?_
        obtain ⟨b40, eb40, kb40, lb40⟩ := sh_f hZ k39 (j := 10) (k := 14) (m := 6) rfl
        have h := h b40 eb40
        refine j_getr E 12 10 rfl rfl (by decide) (by decide) (iw iT_12) rfl rfl (tw W_720) k39 eb40 dX12_next_40 ?_
        refine j_iload_n E dX12_next_43 1 rfl ?_
        obtain ⟨o41, h⟩ := h
        refine j_iald E kb40 (by rw [lb40]; exact o41) dX12_next_44 ?_
        refine j_callV E [.int (I36 b40 v1.toNatClampNeg)] [] (c_X12_findByCost (gL G) (gD G) (gY G) v0 (I36 b40 v1.toNatClampNeg) Z35 I36 L37 _ hZ k39 h) (gwV W_850 W_851 W_852 W_679 W_849) rfl ⟨rfl, fy_X12_findByCost⟩ ⟨by decide, by decide⟩ (c := 12) rfl (by decide) k39 rfl rfl (Nat.le_of_ble_eq_true rfl) ⟨Nat.zero_le _, Nat.zero_le _⟩ dX12_next_45 (fun v42 Z43 I44 L45 q46 => ?_)
        obtain ⟨rfl, rfl, h⟩ := q46
        show jJ G 4 48 [(0, .ref v0), (1, .int v1), (2, .int v2)] [] Z35 I44 L45 0 0
        refine j_iload_n E dX12_next_48 2 rfl ?_
        refine j_iconst E (v := 1) dX12_next_49 (by decide) ?_
        refine j_iadd E dX12_next_50 ?_
        refine j_topi (fun x47 ex47 => ?_)
        have h := h x47 ex47
        refine j_istore_n E 3 [(3, .int x47), (0, .ref v0), (1, .int v1), (2, .int v2)] dX12_next_51 rfl (by decide) rfl ?_
        obtain ⟨n48, h⟩ := h
        refine j_sub [1, 2, 0] rfl ?_
        exact m_X12_next_L52 E  n48 v0 v1 x47 Z35 I44 L45 hZ hx k39 h
      · have h := h.2 c33
        refine j_iconst E (v := -1) dX12_next_31 (by decide) ?_
        exact j_ireturn E ⟨hx, hZ, _, rfl, h⟩ (Nat.zero_le _) (Nat.zero_le _) dX12_next_32
set_option maxRecDepth 100000 in
def f_X12_bears_b70  (Q : Int32 → jZ → jI → jL → Prop) (v0 : Nat) (v1 : Int32) (v2 : Int32) (v3 : Int32) (Z : jZ) (I : jI) (L : jL) : Prop := (∀ b1 : Nat, jr Z v0 12 = some b1 → (vp_in v1 6 ∧ (∀ I3 : jI, I3 = jpI I b1 v1.toNatClampNeg v2 → ((0 ≤ v3 → (∀ I5 : jI, I5 = jpI I3 v0 21 (0 : Int32) → (f_X12_tell v0 ((I5 v0 41).toInt64) Z I5 L (fun I8 L9 => Q v3 Z I8 L9)))) ∧ (¬ (0 ≤ v3) → Q (-2 : Int32) Z I3 L)))))
set_option maxHeartbeats 4000000 in
set_option maxRecDepth 100000 in
theorem m_X12_bears_b70 {G : jG} {Z0 : jZ} {Q : Int32 → jZ → jI → jL → Prop} (E : jE G cX12_bears RX12 w_X12_bears 5 (some .int) { frames := 5, cells := 0, slots := 0, locals := 124 } (xrtI Z0 Q))  (v0 : Nat) (v1 : Int32) (v2 : Int32) (v3 : Int32) (Z : jZ) (I : jI) (L : jL) (hZ : SH Z) (hx : jext Z0 Z) (kv0 : jk Z v0 12) (h : f_X12_bears_b70  Q v0 v1 v2 v3 Z I L) : jJ G 5 70 [(0, .ref v0), (1, .int v1), (2, .int v2), (3, .int v3)] [] Z I L 0 0 := by
  refine j_aload_n E dX12_bears_70 0 rfl ?_
  obtain ⟨b1, eb1, kb1, lb1⟩ := sh_f hZ kv0 (j := 12) (k := 14) (m := 6) rfl
  have h := h b1 eb1
  refine j_getr E 12 12 rfl rfl (by decide) (by decide) (iw iT_12) rfl rfl (tw W_765) kv0 eb1 dX12_bears_71 ?_
  refine j_iload_n E dX12_bears_74 1 rfl ?_
  refine j_iload_n E dX12_bears_75 2 rfl ?_
  obtain ⟨o2, h⟩ := h
  refine j_iast E kb1 (by rw [lb1]; exact o2) dX12_bears_76 ?_
  refine j_nmI (fun I3 eI3 => ?_)
  have h := h I3 eI3
  refine j_iload_n E dX12_bears_77 3 rfl ?_
  refine j_if_ge E 84 dX12_bears_78 (by decide) (fun c4 => ?_) (fun c4 => ?_)
  · have h := h.1 c4
    refine j_aload_n E dX12_bears_84 0 rfl ?_
    refine j_iconst E (v := 0) dX12_bears_85 (by decide) ?_
    refine j_puti E 12 21 rfl rfl (by decide) (by decide) (iw iT_12) tyX12_ok nmX12 rfl rfl (tw W_676) rfl rfl rfl kv0 dX12_bears_86 ?_
    refine j_nmI (fun I5 eI5 => ?_)
    have h := h I5 eI5
    refine j_aload_n E dX12_bears_89 0 rfl ?_
    refine j_aload_n E dX12_bears_90 0 rfl ?_
    refine j_geti E 12 41 rfl rfl (by decide) (by decide) (iw iT_12) rfl rfl (tw W_817) kv0 dX12_bears_91 ?_
    refine j_i2l E dX12_bears_94 ?_
    refine j_callV E [.long ((I5 v0 41).toInt64)] [] (c_X12_tell (gL G) (gD G) (gY G) v0 ((I5 v0 41).toInt64) Z I5 L _ hZ kv0 h) (gwV W_784 W_785 W_786 W_679 W_783) rfl ⟨rfl, fy_X12_tell⟩ ⟨by decide, by decide⟩ (c := 12) rfl (by decide) kv0 rfl rfl (Nat.le_of_ble_eq_true rfl) ⟨Nat.zero_le _, Nat.zero_le _⟩ dX12_bears_95 (fun v6 Z7 I8 L9 q10 => ?_)
    obtain ⟨rfl, rfl, h⟩ := q10
    show jJ G 5 98 [(0, .ref v0), (1, .int v1), (2, .int v2), (3, .int v3)] [] Z I8 L9 0 0
    refine j_iload_n E dX12_bears_98 3 rfl ?_
    exact j_ireturn E ⟨hx, hZ, _, rfl, h⟩ (Nat.zero_le _) (Nat.zero_le _) dX12_bears_99
  · have h := h.2 c4
    refine j_bipush E (v := -2) dX12_bears_81 (by decide) ?_
    exact j_ireturn E ⟨hx, hZ, _, rfl, h⟩ (Nat.zero_le _) (Nat.zero_le _) dX12_bears_83
set_option maxRecDepth 100000 in
def f_X12_bears_b64 (K36 : Nat → Int32 → Int32 → Int32 → Int32 → jZ → jI → jL → Prop) (Q : Int32 → jZ → jI → jL → Prop) (v0 : Nat) (v1 : Int32) (v2 : Int32) (v3 : Int32) (v4 : Int32) (Z : jZ) (I : jI) (L : jL) : Prop := (∀ x11 : Int32, x11 = v4 + (-1) → K36 v0 v1 v2 v3 x11 Z I L)
set_option maxHeartbeats 4000000 in
set_option maxRecDepth 100000 in
theorem m_X12_bears_b64 {G : jG} {Z0 : jZ} {Q : Int32 → jZ → jI → jL → Prop} (E : jE G cX12_bears RX12 w_X12_bears 5 (some .int) { frames := 5, cells := 0, slots := 0, locals := 124 } (xrtI Z0 Q)) (K36 : Nat → Int32 → Int32 → Int32 → Int32 → jZ → jI → jL → Prop) (hK36 : ∀ (v0 : Nat) (v1 : Int32) (v2 : Int32) (v3 : Int32) (v4 : Int32) (Z : jZ) (I : jI) (L : jL), SH Z → jext Z0 Z → jk Z v0 12 → K36 v0 v1 v2 v3 v4 Z I L → jJ G 5 36 [(0, .ref v0), (1, .int v1), (2, .int v2), (3, .int v3), (4, .int v4)] [] Z I L 0 0) (v0 : Nat) (v1 : Int32) (v2 : Int32) (v3 : Int32) (v4 : Int32) (Z : jZ) (I : jI) (L : jL) (hZ : SH Z) (hx : jext Z0 Z) (kv0 : jk Z v0 12) (h : f_X12_bears_b64 K36 Q v0 v1 v2 v3 v4 Z I L) : jJ G 5 64 [(0, .ref v0), (1, .int v1), (2, .int v2), (3, .int v3), (4, .int v4)] [] Z I L 0 0 := by
  obtain ⟨x11, ex11⟩ : ∃ y : Int32, y = v4 + (-1) := ⟨_, rfl⟩
  have h := h x11 ex11
  refine j_iinc E x11 [(4, .int x11), (0, .ref v0), (1, .int v1), (2, .int v2), (3, .int v3)] dX12_bears_64 4 rfl (by rw [ex11]; rfl) (by decide) rfl ?_
  refine j_goto E 36 dX12_bears_67 (by decide) ?_
  refine j_sub [1, 2, 3, 4, 0] rfl ?_
  exact hK36 v0 v1 v2 v3 x11 Z I L hZ hx kv0 h
set_option maxRecDepth 100000 in
def f_X12_bears_L36  (Q : Int32 → jZ → jI → jL → Prop) : Nat → Nat → Int32 → Int32 → Int32 → Int32 → jZ → jI → jL → Prop
  | 0 => fun _ _ _ _ _ _ _ _ => False
  | n + 1 => fun v0 v1 v2 v3 v4 Z I L => ((v4 < 0 → f_X12_bears_b70  Q v0 v1 v2 v3 Z I L) ∧ (¬ (v4 < 0) → ((0 ≤ v3 → f_X12_bears_b70  Q v0 v1 v2 v3 Z I L) ∧ (¬ (0 ≤ v3) → (∀ b14 : Nat, jr Z v0 12 = some b14 → (vp_in v1 6 ∧ (∀ I16 : jI, I16 = jpI I b14 v1.toNatClampNeg v4 → (f_X12_findClimb v0 v1 Z I16 L (fun r22 Z18 I19 L20 => ((r22 = 0 → f_X12_bears_b64 (f_X12_bears_L36 Q n) Q v0 v1 v2 v3 v4 Z18 I19 L20) ∧ (¬ (r22 = 0) → f_X12_bears_b64 (f_X12_bears_L36 Q n) Q v0 v1 v2 v4 v4 Z18 I19 L20)))))))))))
set_option maxHeartbeats 4000000 in
set_option maxRecDepth 100000 in
theorem m_X12_bears_L36 {G : jG} {Z0 : jZ} {Q : Int32 → jZ → jI → jL → Prop} (E : jE G cX12_bears RX12 w_X12_bears 5 (some .int) { frames := 5, cells := 0, slots := 0, locals := 124 } (xrtI Z0 Q))  : ∀ (n : Nat) (v0 : Nat) (v1 : Int32) (v2 : Int32) (v3 : Int32) (v4 : Int32) (Z : jZ) (I : jI) (L : jL), SH Z → jext Z0 Z → jk Z v0 12 → f_X12_bears_L36  Q n v0 v1 v2 v3 v4 Z I L → jJ G 5 36 [(0, .ref v0), (1, .int v1), (2, .int v2), (3, .int v3), (4, .int v4)] [] Z I L 0 0 := by
  intro n
  induction n with
  | zero => intro v0 v1 v2 v3 v4 Z I L _ _ _ h; exact h.elim
  | succ n ih =>
    intro v0 v1 v2 v3 v4 Z I L hZ hx kv0 h
    have h : ((v4 < 0 → f_X12_bears_b70  Q v0 v1 v2 v3 Z I L) ∧ (¬ (v4 < 0) → ((0 ≤ v3 → f_X12_bears_b70  Q v0 v1 v2 v3 Z I L) ∧ (¬ (0 ≤ v3) → (∀ b14 : Nat, jr Z v0 12 = some b14 → (vp_in v1 6 ∧ (∀ I16 : jI, I16 = jpI I b14 v1.toNatClampNeg v4 → (f_X12_findClimb v0 v1 Z I16 L (fun r22 Z18 I19 L20 => ((r22 = 0 → f_X12_bears_b64 (f_X12_bears_L36 Q n) Q v0 v1 v2 v3 v4 Z18 I19 L20) ∧ (¬ (r22 = 0) → f_X12_bears_b64 (f_X12_bears_L36 Q n) Q v0 v1 v2 v4 v4 Z18 I19 L20))))))))))) := h
    obtain ⟨K36, eK36⟩ : ∃ K : Nat → Int32 → Int32 → Int32 → Int32 → jZ → jI → jL → Prop, K = f_X12_bears_L36  Q n := ⟨_, rfl⟩
    have hK36 := ih
    clear eK36 K36
    generalize f_X12_bears_L36  Q n = K36 at hK36 h
    refine j_iload E dX12_bears_36 4 rfl ?_
    refine j_if_lt E 70 dX12_bears_38 (by decide) (fun c12 => ?_) (fun c12 => ?_)
    · have h := h.1 c12
      refine j_sub [0, 1, 2, 3] rfl ?_
      exact m_X12_bears_b70 E  v0 v1 v2 v3 Z I L hZ hx kv0 h
    · have h := h.2 c12
      refine j_iload_n E dX12_bears_41 3 rfl ?_
      refine j_if_ge E 70 dX12_bears_42 (by decide) (fun c13 => ?_) (fun c13 => ?_)
      · have h := h.1 c13
        refine j_sub [0, 1, 2, 3] rfl ?_
        exact m_X12_bears_b70 E  v0 v1 v2 v3 Z I L hZ hx kv0 h
      · have h := h.2 c13
        refine j_aload_n E dX12_bears_45 0 rfl ?_
        obtain ⟨b14, eb14, kb14, lb14⟩ := sh_f hZ kv0 (j := 12) (k := 14) (m := 6) rfl
        have h := h b14 eb14
        refine j_getr E 12 12 rfl rfl (by decide) (by decide) (iw iT_12) rfl rfl (tw W_765) kv0 eb14 dX12_bears_46 ?_
        refine j_iload_n E dX12_bears_49 1 rfl ?_
        refine j_iload E dX12_bears_50 4 rfl ?_
        obtain ⟨o15, h⟩ := h
        refine j_iast E kb14 (by rw [lb14]; exact o15) dX12_bears_52 ?_
        refine j_nmI (fun I16 eI16 => ?_)
        have h := h I16 eI16
        refine j_aload_n E dX12_bears_53 0 rfl ?_
        refine j_iload_n E dX12_bears_54 1 rfl ?_
        refine j_callV E [.int v1] [] (c_X12_findClimb (gL G) (gD G) (gY G) v0 v1 Z I16 L _ hZ kv0 h) (gwV W_828 W_829 W_830 W_679 W_827) rfl ⟨rfl, fy_X12_findClimb⟩ ⟨by decide, by decide⟩ (c := 12) rfl (by decide) kv0 rfl rfl (Nat.le_of_ble_eq_true rfl) ⟨Nat.zero_le _, Nat.zero_le _⟩ dX12_bears_55 (fun v17 Z18 I19 L20 q21 => ?_)
        obtain ⟨yZ18, hZ18, r22, rfl, zr22, h⟩ := q21
        have hZ := hZ18
        have hx : jext Z0 Z18 := jext_trans hx yZ18
        have k23 := (yZ18 _ _ kv0).1
        show jJ G 5 58 [(0, .ref v0), (1, .int v1), (2, .int v2), (3, .int v3), (4, .int v4)] [.int r22] Z18 I19 L20 0 0
        refine j_if_eq E 64 dX12_bears_58 (by decide) (fun c24 => ?_) (fun c24 => ?_)
        · have h := h.1 c24
          refine j_sub [0, 1, 2, 3, 4] rfl ?_
          exact m_X12_bears_b64 E K36 hK36 v0 v1 v2 v3 v4 Z18 I19 L20 hZ hx k23 h
        · have h := h.2 c24
          refine j_iload E dX12_bears_61 4 rfl ?_
          refine j_istore_n E 3 [(3, .int v4), (0, .ref v0), (1, .int v1), (2, .int v2), (4, .int v4)] dX12_bears_63 rfl (by decide) rfl ?_
          refine j_sub [1, 2, 3, 0, 4] rfl ?_
          exact m_X12_bears_b64 E K36 hK36 v0 v1 v2 v4 v4 Z18 I19 L20 hZ hx k23 h
set_option maxRecDepth 100000 in
def f_X12_bears (v0 : Nat) (v1 : Int32) (Z : jZ) (I : jI) (L : jL) (Q : Int32 → jZ → jI → jL → Prop) : Prop := (∀ I25 : jI, I25 = jpI I v0 22 (0 : Int32) → (f_X12_isOne v0 v1 Z I25 L (fun r31 I28 L29 => ((r31 = 0 → Q (-1 : Int32) Z I28 L29) ∧ (¬ (r31 = 0) → ((¬ (I28 v0 0) = 0 → (∀ b34 : Nat, jr Z v0 12 = some b34 → (vp_in v1 6 ∧ (∀ x36 : Int32, x36 = (I28 b34 v1.toNatClampNeg) → (∃ m36 : Nat, f_X12_bears_L36  Q m36 v0 v1 x36 (-2 : Int32) (50 : Int32) Z I28 L29))))) ∧ ((I28 v0 0) = 0 → Q (-1 : Int32) Z I28 L29)))))))
set_option maxHeartbeats 4000000 in
set_option maxRecDepth 100000 in
theorem c_X12_bears (l : Launch) (D : va_G) (cy : jC) (v0 : Nat) (v1 : Int32) (Z : jZ) (I : jI) (L : jL) (Q : Int32 → jZ → jI → jL → Prop) (hZ : SH Z) (kv0 : jk Z v0 12) (h : f_X12_bears v0 v1 Z I L Q) : jCt l yX12_bears w_X12_bears { frames := 5, cells := 0, slots := 0, locals := 124 } D cy [.ref v0, .int v1] Z I L (xrtI Z Q) := by
  refine jCt_of (cc := cX12_bears) (maxL := 5) (ret := (some .int)) (by decide +kernel) rfl (Nat.le_of_ble_eq_true rfl) ?_
  intro G eD eY eL E
  subst eD; subst eY; subst eL
  have E : jE G cX12_bears RX12 w_X12_bears 5 (some .int) { frames := 5, cells := 0, slots := 0, locals := 124 } (xrtI Z Q) := E
  have hx : jext Z Z := jext_rfl
  show jJ G 5 0 [(0, .ref v0), (1, .int v1)] [] Z I L 0 0
  refine j_aload_n E dX12_bears_0 0 rfl ?_
  refine j_iconst E (v := 0) dX12_bears_1 (by decide) ?_
  refine j_puti E 12 22 rfl rfl (by decide) (by decide) (iw iT_12) tyX12_ok nmX12 rfl rfl (tw W_674) rfl rfl rfl kv0 dX12_bears_2 ?_
  refine j_nmI (fun I25 eI25 => ?_)
  have h := h I25 eI25
  refine j_aload_n E dX12_bears_5 0 rfl ?_
  refine j_iload_n E dX12_bears_6 1 rfl ?_
  refine j_callV E [.int v1] [] (c_X12_isOne (gL G) (gD G) (gY G) v0 v1 Z I25 L _ hZ kv0 h) (gwV W_768 W_769 W_770 W_679 W_767) rfl ⟨rfl, fy_X12_isOne⟩ ⟨by decide, by decide⟩ (c := 12) rfl (by decide) kv0 rfl rfl (Nat.le_of_ble_eq_true rfl) ⟨Nat.zero_le _, Nat.zero_le _⟩ dX12_bears_7 (fun v26 Z27 I28 L29 q30 => ?_)
  obtain ⟨rfl, r31, rfl, zr31, h⟩ := q30
  show jJ G 5 10 [(0, .ref v0), (1, .int v1)] [.int r31] Z I28 L29 0 0
  refine j_if_eq E 20 dX12_bears_10 (by decide) (fun c32 => ?_) (fun c32 => ?_)
  · have h := h.1 c32
    refine j_iconst E (v := -1) dX12_bears_20 (by decide) ?_
    exact j_ireturn E ⟨hx, hZ, _, rfl, h⟩ (Nat.zero_le _) (Nat.zero_le _) dX12_bears_21
  · have h := h.2 c32
    refine j_aload_n E dX12_bears_13 0 rfl ?_
    refine j_geti E 12 0 rfl rfl (by decide) (by decide) (iw iT_12) rfl rfl (tw W_677) kv0 dX12_bears_14 ?_
    refine j_if_ne E 22 dX12_bears_17 (by decide) (fun c33 => ?_) (fun c33 => ?_)
    · have h := h.1 c33
      refine j_aload_n E dX12_bears_22 0 rfl ?_
      obtain ⟨b34, eb34, kb34, lb34⟩ := sh_f hZ kv0 (j := 12) (k := 14) (m := 6) rfl
      have h := h b34 eb34
      refine j_getr E 12 12 rfl rfl (by decide) (by decide) (iw iT_12) rfl rfl (tw W_765) kv0 eb34 dX12_bears_23 ?_
      refine j_iload_n E dX12_bears_26 1 rfl ?_
      obtain ⟨o35, h⟩ := h
      refine j_iald E kb34 (by rw [lb34]; exact o35) dX12_bears_27 ?_
      refine j_topi (fun x36 ex36 => ?_)
      have h := h x36 ex36
      refine j_istore_n E 2 [(2, .int x36), (0, .ref v0), (1, .int v1)] dX12_bears_28 rfl (by decide) rfl ?_
      refine j_bipush E (v := -2) dX12_bears_29 (by decide) ?_
      refine j_istore_n E 3 [(3, .int (-2 : Int32)), (2, .int x36), (0, .ref v0), (1, .int v1)] dX12_bears_31 rfl (by decide) rfl ?_
      refine j_bipush E (v := 50) dX12_bears_32 (by decide) ?_
      refine j_istore E 4 [(4, .int (50 : Int32)), (3, .int (-2 : Int32)), (2, .int x36), (0, .ref v0), (1, .int v1)] dX12_bears_34 (by decide) rfl ?_
      obtain ⟨n37, h⟩ := h
      refine j_sub [3, 4, 2, 1, 0] rfl ?_
      exact m_X12_bears_L36 E  n37 v0 v1 x36 (-2 : Int32) (50 : Int32) Z I28 L29 hZ hx kv0 h
    · have h := h.2 c33
      refine j_iconst E (v := -1) dX12_bears_20 (by decide) ?_
      exact j_ireturn E ⟨hx, hZ, _, rfl, h⟩ (Nat.zero_le _) (Nat.zero_le _) dX12_bears_21
set_option maxRecDepth 100000 in
def f_X12_breaks_b124 (K56 : Nat → Int32 → Int32 → Int32 → Int32 → Int32 → Int32 → jZ → jI → jL → Prop) (Q : Int32 → jZ → jI → jL → Prop) (v0 : Nat) (v1 : Int32) (v2 : Int32) (v3 : Int32) (v4 : Int32) (v5 : Int32) (v6 : Int32) (Z : jZ) (I : jI) (L : jL) : Prop := (∀ x1 : Int32, x1 = v6 + 1 → K56 v0 v1 v2 v3 v4 v5 x1 Z I L)
set_option maxHeartbeats 4000000 in
set_option maxRecDepth 100000 in
theorem m_X12_breaks_b124 {G : jG} {Z0 : jZ} {Q : Int32 → jZ → jI → jL → Prop} (E : jE G cX12_breaks RX12 w_X12_breaks 7 (some .int) { frames := 5, cells := 0, slots := 0, locals := 124 } (xrtI Z0 Q)) (K56 : Nat → Int32 → Int32 → Int32 → Int32 → Int32 → Int32 → jZ → jI → jL → Prop) (hK56 : ∀ (v0 : Nat) (v1 : Int32) (v2 : Int32) (v3 : Int32) (v4 : Int32) (v5 : Int32) (v6 : Int32) (Z : jZ) (I : jI) (L : jL), SH Z → jext Z0 Z → jk Z v0 12 → K56 v0 v1 v2 v3 v4 v5 v6 Z I L → jJ G 7 56 [(0, .ref v0), (1, .int v1), (2, .int v2), (3, .int v3), (4, .int v4), (5, .int v5), (6, .int v6)] [] Z I L 0 0) (v0 : Nat) (v1 : Int32) (v2 : Int32) (v3 : Int32) (v4 : Int32) (v5 : Int32) (v6 : Int32) (Z : jZ) (I : jI) (L : jL) (hZ : SH Z) (hx : jext Z0 Z) (kv0 : jk Z v0 12) (h : f_X12_breaks_b124 K56 Q v0 v1 v2 v3 v4 v5 v6 Z I L) : jJ G 7 124 [(0, .ref v0), (1, .int v1), (2, .int v2), (3, .int v3), (4, .int v4), (5, .int v5), (6, .int v6)] [] Z I L 0 0 := by
  obtain ⟨x1, ex1⟩ : ∃ y : Int32, y = v6 + 1 := ⟨_, rfl⟩
  have h := h x1 ex1
  refine j_iinc E x1 [(6, .int x1), (0, .ref v0), (1, .int v1), (2, .int v2), (3, .int v3), (4, .int v4), (5, .int v5)] dX12_breaks_124 6 rfl (by rw [ex1]; rfl) (by decide) rfl ?_
  refine j_goto E 56 dX12_breaks_127 (by decide) ?_
  refine j_sub [1, 2, 3, 4, 5, 6, 0] rfl ?_
  exact hK56 v0 v1 v2 v3 v4 v5 x1 Z I L hZ hx kv0 h
set_option maxRecDepth 100000 in
def f_X12_breaks_b114 (K56 : Nat → Int32 → Int32 → Int32 → Int32 → Int32 → Int32 → jZ → jI → jL → Prop) (Q : Int32 → jZ → jI → jL → Prop) (v0 : Nat) (v1 : Int32) (v2 : Int32) (v3 : Int32) (v6 : Int32) (Z : jZ) (I : jI) (L : jL) : Prop := (∀ x2 : Int32, x2 = (I v0 41) → f_X12_breaks_b124 K56 Q v0 v1 v2 v3 v6 x2 v6 Z I L)
set_option maxHeartbeats 4000000 in
set_option maxRecDepth 100000 in
theorem m_X12_breaks_b114 {G : jG} {Z0 : jZ} {Q : Int32 → jZ → jI → jL → Prop} (E : jE G cX12_breaks RX12 w_X12_breaks 7 (some .int) { frames := 5, cells := 0, slots := 0, locals := 124 } (xrtI Z0 Q)) (K56 : Nat → Int32 → Int32 → Int32 → Int32 → Int32 → Int32 → jZ → jI → jL → Prop) (hK56 : ∀ (v0 : Nat) (v1 : Int32) (v2 : Int32) (v3 : Int32) (v4 : Int32) (v5 : Int32) (v6 : Int32) (Z : jZ) (I : jI) (L : jL), SH Z → jext Z0 Z → jk Z v0 12 → K56 v0 v1 v2 v3 v4 v5 v6 Z I L → jJ G 7 56 [(0, .ref v0), (1, .int v1), (2, .int v2), (3, .int v3), (4, .int v4), (5, .int v5), (6, .int v6)] [] Z I L 0 0) (v0 : Nat) (v1 : Int32) (v2 : Int32) (v3 : Int32) (v6 : Int32) (Z : jZ) (I : jI) (L : jL) (hZ : SH Z) (hx : jext Z0 Z) (kv0 : jk Z v0 12) (h : f_X12_breaks_b114 K56 Q v0 v1 v2 v3 v6 Z I L) : jJ G 7 114 [(0, .ref v0), (1, .int v1), (2, .int v2), (3, .int v3), (6, .int v6)] [] Z I L 0 0 := by
  refine j_iload E dX12_breaks_114 4 rfl ?_
  refine j_istore E 4 [(4, .int v6), (0, .ref v0), (1, .int v1), (2, .int v2), (3, .int v3), (6, .int v6)] dX12_breaks_116 (by decide) rfl ?_
  refine j_aload_n E dX12_breaks_118 1 rfl ?_
  refine j_geti E 12 41 rfl rfl (by decide) (by decide) (iw iT_12) rfl rfl (tw W_817) kv0 dX12_breaks_119 ?_
  refine j_topi (fun x2 ex2 => ?_)
  have h := h x2 ex2
  refine j_istore E 5 [(5, .int x2), (4, .int v6), (0, .ref v0), (1, .int v1), (2, .int v2), (3, .int v3), (6, .int v6)] dX12_breaks_122 (by decide) rfl ?_
  refine j_sub [2, 3, 4, 5, 1, 0, 6] rfl ?_
  exact m_X12_breaks_b124 E K56 hK56 v0 v1 v2 v3 v6 x2 v6 Z I L hZ hx kv0 h
set_option maxRecDepth 100000 in
def f_X12_breaks_L56  (Q : Int32 → jZ → jI → jL → Prop) : Nat → Nat → Int32 → Int32 → Int32 → Int32 → Int32 → Int32 → jZ → jI → jL → Prop
  | 0 => fun _ _ _ _ _ _ _ _ _ _ => False
  | n + 1 => fun v0 v1 v2 v3 v4 v5 v6 Z I L => (((8 : Int32) ≤ v6 → (∀ b4 : Nat, jr Z v0 13 = some b4 → (vp_in v1 6 ∧ (∀ I6 : jI, I6 = jpI I b4 v1.toNatClampNeg v3 → ((0 ≤ v4 → (∀ I8 : jI, I8 = jpI I6 v0 21 (0 : Int32) → (f_X12_tell v0 (v5.toInt64) Z I8 L (fun I11 L12 => (f_X12_tell v0 (v2.toInt64) Z I11 L12 (fun I16 L17 => Q v4 Z I16 L17)))))) ∧ (¬ (0 ≤ v4) → Q (-2 : Int32) Z I6 L)))))) ∧ (¬ ((8 : Int32) ≤ v6) → (f_X12_has v3 v6 Z I L (fun r24 I21 L22 => ((¬ r24 = 0 → (∀ b26 : Nat, jr Z v0 13 = some b26 → (vp_in v1 6 ∧ (∀ I28 : jI, I28 = jpI I21 b26 v1.toNatClampNeg (v3 &&& (((1 : Int32) <<< (v6 &&& 31)) ^^^ (-1 : Int32))) → (f_X12_findClimb v0 v1 Z I28 L22 (fun r34 Z30 I31 L32 => ((r34 = 0 → f_X12_breaks_b124 (f_X12_breaks_L56 Q n) Q v0 v1 v2 v3 v4 v5 v6 Z30 I31 L32) ∧ (¬ (r34 = 0) → ((v4 < 0 → f_X12_breaks_b114 (f_X12_breaks_L56 Q n) Q v0 v1 v2 v3 v6 Z30 I31 L32) ∧ (¬ (v4 < 0) → (((I31 v0 41) < v5 → f_X12_breaks_b114 (f_X12_breaks_L56 Q n) Q v0 v1 v2 v3 v6 Z30 I31 L32) ∧ (¬ ((I31 v0 41) < v5) → f_X12_breaks_b124 (f_X12_breaks_L56 Q n) Q v0 v1 v2 v3 v4 v5 v6 Z30 I31 L32)))))))))))) ∧ (r24 = 0 → f_X12_breaks_b124 (f_X12_breaks_L56 Q n) Q v0 v1 v2 v3 v4 v5 v6 Z I21 L22))))))
set_option maxHeartbeats 4000000 in
set_option maxRecDepth 100000 in
theorem m_X12_breaks_L56 {G : jG} {Z0 : jZ} {Q : Int32 → jZ → jI → jL → Prop} (E : jE G cX12_breaks RX12 w_X12_breaks 7 (some .int) { frames := 5, cells := 0, slots := 0, locals := 124 } (xrtI Z0 Q))  : ∀ (n : Nat) (v0 : Nat) (v1 : Int32) (v2 : Int32) (v3 : Int32) (v4 : Int32) (v5 : Int32) (v6 : Int32) (Z : jZ) (I : jI) (L : jL), SH Z → jext Z0 Z → jk Z v0 12 → f_X12_breaks_L56  Q n v0 v1 v2 v3 v4 v5 v6 Z I L → jJ G 7 56 [(0, .ref v0), (1, .int v1), (2, .int v2), (3, .int v3), (4, .int v4), (5, .int v5), (6, .int v6)] [] Z I L 0 0 := by
  intro n
  induction n with
  | zero => intro v0 v1 v2 v3 v4 v5 v6 Z I L _ _ _ h; exact h.elim
  | succ n ih =>
    intro v0 v1 v2 v3 v4 v5 v6 Z I L hZ hx kv0 h
    have h : (((8 : Int32) ≤ v6 → (∀ b4 : Nat, jr Z v0 13 = some b4 → (vp_in v1 6 ∧ (∀ I6 : jI, I6 = jpI I b4 v1.toNatClampNeg v3 → ((0 ≤ v4 → (∀ I8 : jI, I8 = jpI I6 v0 21 (0 : Int32) → (f_X12_tell v0 (v5.toInt64) Z I8 L (fun I11 L12 => (f_X12_tell v0 (v2.toInt64) Z I11 L12 (fun I16 L17 => Q v4 Z I16 L17)))))) ∧ (¬ (0 ≤ v4) → Q (-2 : Int32) Z I6 L)))))) ∧ (¬ ((8 : Int32) ≤ v6) → (f_X12_has v3 v6 Z I L (fun r24 I21 L22 => ((¬ r24 = 0 → (∀ b26 : Nat, jr Z v0 13 = some b26 → (vp_in v1 6 ∧ (∀ I28 : jI, I28 = jpI I21 b26 v1.toNatClampNeg (v3 &&& (((1 : Int32) <<< (v6 &&& 31)) ^^^ (-1 : Int32))) → (f_X12_findClimb v0 v1 Z I28 L22 (fun r34 Z30 I31 L32 => ((r34 = 0 → f_X12_breaks_b124 (f_X12_breaks_L56 Q n) Q v0 v1 v2 v3 v4 v5 v6 Z30 I31 L32) ∧ (¬ (r34 = 0) → ((v4 < 0 → f_X12_breaks_b114 (f_X12_breaks_L56 Q n) Q v0 v1 v2 v3 v6 Z30 I31 L32) ∧ (¬ (v4 < 0) → (((I31 v0 41) < v5 → f_X12_breaks_b114 (f_X12_breaks_L56 Q n) Q v0 v1 v2 v3 v6 Z30 I31 L32) ∧ (¬ ((I31 v0 41) < v5) → f_X12_breaks_b124 (f_X12_breaks_L56 Q n) Q v0 v1 v2 v3 v4 v5 v6 Z30 I31 L32)))))))))))) ∧ (r24 = 0 → f_X12_breaks_b124 (f_X12_breaks_L56 Q n) Q v0 v1 v2 v3 v4 v5 v6 Z I21 L22)))))) := h
    obtain ⟨K56, eK56⟩ : ∃ K : Nat → Int32 → Int32 → Int32 → Int32 → Int32 → Int32 → jZ → jI → jL → Prop, K = f_X12_breaks_L56  Q n := ⟨_, rfl⟩
    have hK56 := ih
    clear eK56 K56
    generalize f_X12_breaks_L56  Q n = K56 at hK56 h
    refine j_iload E dX12_breaks_56 6 rfl ?_
    refine j_bipush E (v := 8) dX12_breaks_58 (by decide) ?_
    refine j_icmp_ge E 130 dX12_breaks_60 (by decide) (fun c3 => ?_) (fun c3 => ?_)
    · have h := h.1 c3
      refine j_aload_n E dX12_breaks_130 0 rfl ?_
      obtain ⟨b4, eb4, kb4, lb4⟩ := sh_f hZ kv0 (j := 13) (k := 14) (m := 6) rfl
      have h := h b4 eb4
      refine j_getr E 12 13 rfl rfl (by decide) (by decide) (iw iT_12) rfl rfl (tw W_766) kv0 eb4 dX12_breaks_131 ?_
      refine j_iload_n E dX12_breaks_134 1 rfl ?_
      refine j_iload_n E dX12_breaks_135 3 rfl ?_
      obtain ⟨o5, h⟩ := h
      refine j_iast E kb4 (by rw [lb4]; exact o5) dX12_breaks_136 ?_
      refine j_nmI (fun I6 eI6 => ?_)
      have h := h I6 eI6
      refine j_iload E dX12_breaks_137 4 rfl ?_
      refine j_if_ge E 145 dX12_breaks_139 (by decide) (fun c7 => ?_) (fun c7 => ?_)
      · have h := h.1 c7
        refine j_aload_n E dX12_breaks_145 0 rfl ?_
        refine j_iconst E (v := 0) dX12_breaks_146 (by decide) ?_
        refine j_puti E 12 21 rfl rfl (by decide) (by decide) (iw iT_12) tyX12_ok nmX12 rfl rfl (tw W_676) rfl rfl rfl kv0 dX12_breaks_147 ?_
        refine j_nmI (fun I8 eI8 => ?_)
        have h := h I8 eI8
        refine j_aload_n E dX12_breaks_150 0 rfl ?_
        refine j_iload E dX12_breaks_151 5 rfl ?_
        refine j_i2l E dX12_breaks_153 ?_
        refine j_callV E [.long (v5.toInt64)] [] (c_X12_tell (gL G) (gD G) (gY G) v0 (v5.toInt64) Z I8 L _ hZ kv0 h) (gwV W_784 W_785 W_786 W_679 W_783) rfl ⟨rfl, fy_X12_tell⟩ ⟨by decide, by decide⟩ (c := 12) rfl (by decide) kv0 rfl rfl (Nat.le_of_ble_eq_true rfl) ⟨Nat.zero_le _, Nat.zero_le _⟩ dX12_breaks_154 (fun v9 Z10 I11 L12 q13 => ?_)
        obtain ⟨rfl, rfl, h⟩ := q13
        show jJ G 7 157 [(0, .ref v0), (1, .int v1), (2, .int v2), (3, .int v3), (4, .int v4), (5, .int v5), (6, .int v6)] [] Z I11 L12 0 0
        refine j_aload_n E dX12_breaks_157 0 rfl ?_
        refine j_iload_n E dX12_breaks_158 2 rfl ?_
        refine j_i2l E dX12_breaks_159 ?_
        refine j_callV E [.long (v2.toInt64)] [] (c_X12_tell (gL G) (gD G) (gY G) v0 (v2.toInt64) Z I11 L12 _ hZ kv0 h) (gwV W_784 W_785 W_786 W_679 W_783) rfl ⟨rfl, fy_X12_tell⟩ ⟨by decide, by decide⟩ (c := 12) rfl (by decide) kv0 rfl rfl (Nat.le_of_ble_eq_true rfl) ⟨Nat.zero_le _, Nat.zero_le _⟩ dX12_breaks_160 (fun v14 Z15 I16 L17 q18 => ?_)
        obtain ⟨rfl, rfl, h⟩ := q18
        show jJ G 7 163 [(0, .ref v0), (1, .int v1), (2, .int v2), (3, .int v3), (4, .int v4), (5, .int v5), (6, .int v6)] [] Z I16 L17 0 0
        refine j_iload E dX12_breaks_163 4 rfl ?_
        exact j_ireturn E ⟨hx, hZ, _, rfl, h⟩ (Nat.zero_le _) (Nat.zero_le _) dX12_breaks_165
      · have h := h.2 c7
        refine j_bipush E (v := -2) dX12_breaks_142 (by decide) ?_
        exact j_ireturn E ⟨hx, hZ, _, rfl, h⟩ (Nat.zero_le _) (Nat.zero_le _) dX12_breaks_144
    · have h := h.2 c3
      refine j_iload_n E dX12_breaks_63 3 rfl ?_
      refine j_iload E dX12_breaks_64 6 rfl ?_
      refine j_callS E [.int v3, .int v6] [] (c_X12_has (gL G) (gD G) (gY G) v3 v6 Z I L _ hZ  h) (gwS W_804 W_805 W_679 W_803) rfl fy_X12_has ⟨by decide, by decide⟩ rfl rfl (Nat.le_of_ble_eq_true rfl) ⟨Nat.zero_le _, Nat.zero_le _⟩ dX12_breaks_66 (fun v19 Z20 I21 L22 q23 => ?_)
      obtain ⟨rfl, r24, rfl, zr24, h⟩ := q23
      show jJ G 7 69 [(0, .ref v0), (1, .int v1), (2, .int v2), (3, .int v3), (4, .int v4), (5, .int v5), (6, .int v6)] [.int r24] Z I21 L22 0 0
      refine j_if_ne E 75 dX12_breaks_69 (by decide) (fun c25 => ?_) (fun c25 => ?_)
      · have h := h.1 c25
        refine j_aload_n E dX12_breaks_75 0 rfl ?_
        obtain ⟨b26, eb26, kb26, lb26⟩ := sh_f hZ kv0 (j := 13) (k := 14) (m := 6) rfl
        have h := h b26 eb26
        refine j_getr E 12 13 rfl rfl (by decide) (by decide) (iw iT_12) rfl rfl (tw W_766) kv0 eb26 dX12_breaks_76 ?_
        refine j_iload_n E dX12_breaks_79 1 rfl ?_
        refine j_iload_n E dX12_breaks_80 3 rfl ?_
        refine j_iconst E (v := 1) dX12_breaks_81 (by decide) ?_
        refine j_iload E dX12_breaks_82 6 rfl ?_
        refine j_ishl E dX12_breaks_84 ?_
        refine j_iconst E (v := -1) dX12_breaks_85 (by decide) ?_
        refine j_ixor E dX12_breaks_86 ?_
        refine j_iand E dX12_breaks_87 ?_
        obtain ⟨o27, h⟩ := h
        refine j_iast E kb26 (by rw [lb26]; exact o27) dX12_breaks_88 ?_
        refine j_nmI (fun I28 eI28 => ?_)
        have h := h I28 eI28
        refine j_aload_n E dX12_breaks_89 0 rfl ?_
        refine j_iload_n E dX12_breaks_90 1 rfl ?_
        refine j_callV E [.int v1] [] (c_X12_findClimb (gL G) (gD G) (gY G) v0 v1 Z I28 L22 _ hZ kv0 h) (gwV W_828 W_829 W_830 W_679 W_827) rfl ⟨rfl, fy_X12_findClimb⟩ ⟨by decide, by decide⟩ (c := 12) rfl (by decide) kv0 rfl rfl (Nat.le_of_ble_eq_true rfl) ⟨Nat.zero_le _, Nat.zero_le _⟩ dX12_breaks_91 (fun v29 Z30 I31 L32 q33 => ?_)
        obtain ⟨yZ30, hZ30, r34, rfl, zr34, h⟩ := q33
        have hZ := hZ30
        have hx : jext Z0 Z30 := jext_trans hx yZ30
        have k35 := (yZ30 _ _ kv0).1
        show jJ G 7 94 [(0, .ref v0), (1, .int v1), (2, .int v2), (3, .int v3), (4, .int v4), (5, .int v5), (6, .int v6)] [.int r34] Z30 I31 L32 0 0
        refine j_if_eq E 124 dX12_breaks_94 (by decide) (fun c36 => ?_) (fun c36 => ?_)
        · have h := h.1 c36
          refine j_sub [0, 1, 2, 3, 4, 5, 6] rfl ?_
          exact m_X12_breaks_b124 E K56 hK56 v0 v1 v2 v3 v4 v5 v6 Z30 I31 L32 hZ hx k35 h
        · have h := h.2 c36
          refine j_iload E dX12_breaks_97 4 rfl ?_
          refine j_if_lt E 114 dX12_breaks_99 (by decide) (fun c37 => ?_) (fun c37 => ?_)
          · have h := h.1 c37
            refine j_sub [0, 1, 2, 3, 6] rfl ?_
            exact m_X12_breaks_b114 E K56 hK56 v0 v1 v2 v3 v6 Z30 I31 L32 hZ hx k35 h
          · have h := h.2 c37
            refine j_aload_n E dX12_breaks_102 0 rfl ?_
            refine j_geti E 12 41 rfl rfl (by decide) (by decide) (iw iT_12) rfl rfl (tw W_817) k35 dX12_breaks_103 ?_
            refine j_iload E dX12_breaks_106 5 rfl ?_
            refine j_icmp_lt E 114 dX12_breaks_108 (by decide) (fun c38 => ?_) (fun c38 => ?_)
            · have h := h.1 c38
              refine j_sub [0, 1, 2, 3, 6] rfl ?_
              exact m_X12_breaks_b114 E K56 hK56 v0 v1 v2 v3 v6 Z30 I31 L32 hZ hx k35 h
            · have h := h.2 c38
              refine j_goto E 124 dX12_breaks_111 (by decide) ?_
              refine j_sub [0, 1, 2, 3, 4, 5, 6] rfl ?_
              exact m_X12_breaks_b124 E K56 hK56 v0 v1 v2 v3 v4 v5 v6 Z30 I31 L32 hZ hx k35 h
      · have h := h.2 c25
        refine j_goto E 124 dX12_breaks_72 (by decide) ?_
        refine j_sub [0, 1, 2, 3, 4, 5, 6] rfl ?_
        exact m_X12_breaks_b124 E K56 hK56 v0 v1 v2 v3 v4 v5 v6 Z I21 L22 hZ hx kv0 h
set_option maxRecDepth 100000 in
def f_X12_breaks_b38  (Q : Int32 → jZ → jI → jL → Prop) (v0 : Nat) (v1 : Int32) (s0 : Int32) (Z : jZ) (I : jI) (L : jL) : Prop := (∀ b39 : Nat, jr Z v0 13 = some b39 → (vp_in v1 6 ∧ (∀ x41 : Int32, x41 = (I b39 v1.toNatClampNeg) → (∃ m56 : Nat, f_X12_breaks_L56  Q m56 v0 v1 s0 x41 (-2 : Int32) (0 : Int32) (0 : Int32) Z I L))))
set_option maxHeartbeats 4000000 in
set_option maxRecDepth 100000 in
theorem m_X12_breaks_b38 {G : jG} {Z0 : jZ} {Q : Int32 → jZ → jI → jL → Prop} (E : jE G cX12_breaks RX12 w_X12_breaks 7 (some .int) { frames := 5, cells := 0, slots := 0, locals := 124 } (xrtI Z0 Q))  (v0 : Nat) (v1 : Int32) (s0 : Int32) (Z : jZ) (I : jI) (L : jL) (hZ : SH Z) (hx : jext Z0 Z) (kv0 : jk Z v0 12) (h : f_X12_breaks_b38  Q v0 v1 s0 Z I L) : jJ G 7 38 [(0, .ref v0), (1, .int v1)] [.int s0] Z I L 0 0 := by
  refine j_istore_n E 2 [(2, .int s0), (0, .ref v0), (1, .int v1)] dX12_breaks_38 rfl (by decide) rfl ?_
  refine j_aload_n E dX12_breaks_39 1 rfl ?_
  obtain ⟨b39, eb39, kb39, lb39⟩ := sh_f hZ kv0 (j := 13) (k := 14) (m := 6) rfl
  have h := h b39 eb39
  refine j_getr E 12 13 rfl rfl (by decide) (by decide) (iw iT_12) rfl rfl (tw W_766) kv0 eb39 dX12_breaks_40 ?_
  refine j_iload_n E dX12_breaks_43 2 rfl ?_
  obtain ⟨o40, h⟩ := h
  refine j_iald E kb39 (by rw [lb39]; exact o40) dX12_breaks_44 ?_
  refine j_topi (fun x41 ex41 => ?_)
  have h := h x41 ex41
  refine j_istore_n E 3 [(3, .int x41), (2, .int s0), (0, .ref v0), (1, .int v1)] dX12_breaks_45 rfl (by decide) rfl ?_
  refine j_bipush E (v := -2) dX12_breaks_46 (by decide) ?_
  refine j_istore E 4 [(4, .int (-2 : Int32)), (3, .int x41), (2, .int s0), (0, .ref v0), (1, .int v1)] dX12_breaks_48 (by decide) rfl ?_
  refine j_iconst E (v := 0) dX12_breaks_50 (by decide) ?_
  refine j_istore E 5 [(5, .int (0 : Int32)), (4, .int (-2 : Int32)), (3, .int x41), (2, .int s0), (0, .ref v0), (1, .int v1)] dX12_breaks_51 (by decide) rfl ?_
  refine j_iconst E (v := 0) dX12_breaks_53 (by decide) ?_
  refine j_istore E 6 [(6, .int (0 : Int32)), (5, .int (0 : Int32)), (4, .int (-2 : Int32)), (3, .int x41), (2, .int s0), (0, .ref v0), (1, .int v1)] dX12_breaks_54 (by decide) rfl ?_
  obtain ⟨n42, h⟩ := h
  refine j_sub [5, 6, 4, 3, 2, 1, 0] rfl ?_
  exact m_X12_breaks_L56 E  n42 v0 v1 s0 x41 (-2 : Int32) (0 : Int32) (0 : Int32) Z I L hZ hx kv0 h
set_option maxRecDepth 100000 in
def f_X12_breaks (v0 : Nat) (v1 : Int32) (Z : jZ) (I : jI) (L : jL) (Q : Int32 → jZ → jI → jL → Prop) : Prop := (∀ I43 : jI, I43 = jpI I v0 22 (0 : Int32) → (f_X12_isOne v0 v1 Z I43 L (fun r49 I46 L47 => ((r49 = 0 → Q (-1 : Int32) Z I46 L47) ∧ (¬ (r49 = 0) → ((¬ (I46 v0 0) = 0 → (f_X12_findClimb v0 v1 Z I46 L47 (fun r57 Z53 I54 L55 => ((r57 = 0 → f_X12_breaks_b38  Q v0 v1 (-1 : Int32) Z53 I54 L55) ∧ (¬ (r57 = 0) → f_X12_breaks_b38  Q v0 v1 (I54 v0 41) Z53 I54 L55))))) ∧ ((I46 v0 0) = 0 → Q (-1 : Int32) Z I46 L47)))))))
set_option maxHeartbeats 4000000 in
set_option maxRecDepth 100000 in
theorem c_X12_breaks (l : Launch) (D : va_G) (cy : jC) (v0 : Nat) (v1 : Int32) (Z : jZ) (I : jI) (L : jL) (Q : Int32 → jZ → jI → jL → Prop) (hZ : SH Z) (kv0 : jk Z v0 12) (h : f_X12_breaks v0 v1 Z I L Q) : jCt l yX12_breaks w_X12_breaks { frames := 5, cells := 0, slots := 0, locals := 124 } D cy [.ref v0, .int v1] Z I L (xrtI Z Q) := by
  refine jCt_of (cc := cX12_breaks) (maxL := 7) (ret := (some .int)) (by decide +kernel) rfl (Nat.le_of_ble_eq_true rfl) ?_
  intro G eD eY eL E
  subst eD; subst eY; subst eL
  have E : jE G cX12_breaks RX12 w_X12_breaks 7 (some .int) { frames := 5, cells := 0, slots := 0, locals := 124 } (xrtI Z Q) := E
  have hx : jext Z Z := jext_rfl
  show jJ G 7 0 [(0, .ref v0), (1, .int v1)] [] Z I L 0 0
  refine j_aload_n E dX12_breaks_0 0 rfl ?_
  refine j_iconst E (v := 0) dX12_breaks_1 (by decide) ?_
  refine j_puti E 12 22 rfl rfl (by decide) (by decide) (iw iT_12) tyX12_ok nmX12 rfl rfl (tw W_674) rfl rfl rfl kv0 dX12_breaks_2 ?_
  refine j_nmI (fun I43 eI43 => ?_)
  have h := h I43 eI43
  refine j_aload_n E dX12_breaks_5 0 rfl ?_
  refine j_iload_n E dX12_breaks_6 1 rfl ?_
  refine j_callV E [.int v1] [] (c_X12_isOne (gL G) (gD G) (gY G) v0 v1 Z I43 L _ hZ kv0 h) (gwV W_768 W_769 W_770 W_679 W_767) rfl ⟨rfl, fy_X12_isOne⟩ ⟨by decide, by decide⟩ (c := 12) rfl (by decide) kv0 rfl rfl (Nat.le_of_ble_eq_true rfl) ⟨Nat.zero_le _, Nat.zero_le _⟩ dX12_breaks_7 (fun v44 Z45 I46 L47 q48 => ?_)
  obtain ⟨rfl, r49, rfl, zr49, h⟩ := q48
  show jJ G 7 10 [(0, .ref v0), (1, .int v1)] [.int r49] Z I46 L47 0 0
  refine j_if_eq E 20 dX12_breaks_10 (by decide) (fun c50 => ?_) (fun c50 => ?_)
  · have h := h.1 c50
    refine j_iconst E (v := -1) dX12_breaks_20 (by decide) ?_
    exact j_ireturn E ⟨hx, hZ, _, rfl, h⟩ (Nat.zero_le _) (Nat.zero_le _) dX12_breaks_21
  · have h := h.2 c50
    refine j_aload_n E dX12_breaks_13 0 rfl ?_
    refine j_geti E 12 0 rfl rfl (by decide) (by decide) (iw iT_12) rfl rfl (tw W_677) kv0 dX12_breaks_14 ?_
    refine j_if_ne E 22 dX12_breaks_17 (by decide) (fun c51 => ?_) (fun c51 => ?_)
    · have h := h.1 c51
      refine j_aload_n E dX12_breaks_22 0 rfl ?_
      refine j_iload_n E dX12_breaks_23 1 rfl ?_
      refine j_callV E [.int v1] [] (c_X12_findClimb (gL G) (gD G) (gY G) v0 v1 Z I46 L47 _ hZ kv0 h) (gwV W_828 W_829 W_830 W_679 W_827) rfl ⟨rfl, fy_X12_findClimb⟩ ⟨by decide, by decide⟩ (c := 12) rfl (by decide) kv0 rfl rfl (Nat.le_of_ble_eq_true rfl) ⟨Nat.zero_le _, Nat.zero_le _⟩ dX12_breaks_24 (fun v52 Z53 I54 L55 q56 => ?_)
      obtain ⟨yZ53, hZ53, r57, rfl, zr57, h⟩ := q56
      have hZ := hZ53
      have hx : jext Z Z53 := jext_trans hx yZ53
      have k58 := (yZ53 _ _ kv0).1
      show jJ G 7 27 [(0, .ref v0), (1, .int v1)] [.int r57] Z53 I54 L55 0 0
      refine j_if_eq E 37 dX12_breaks_27 (by decide) (fun c59 => ?_) (fun c59 => ?_)
      · have h := h.1 c59
        refine j_iconst E (v := -1) dX12_breaks_37 (by decide) ?_
        refine j_sub [0, 1] rfl ?_
        exact m_X12_breaks_b38 E  v0 v1 (-1 : Int32) Z53 I54 L55 hZ hx k58 h
      · have h := h.2 c59
        refine j_aload_n E dX12_breaks_30 0 rfl ?_
        refine j_geti E 12 41 rfl rfl (by decide) (by decide) (iw iT_12) rfl rfl (tw W_817) k58 dX12_breaks_31 ?_
        refine j_goto E 38 dX12_breaks_34 (by decide) ?_
        refine j_sub [0, 1] rfl ?_
        exact m_X12_breaks_b38 E  v0 v1 (I54 v0 41) Z53 I54 L55 hZ hx k58 h
    · have h := h.2 c51
      refine j_iconst E (v := -1) dX12_breaks_20 (by decide) ?_
      exact j_ireturn E ⟨hx, hZ, _, rfl, h⟩ (Nat.zero_le _) (Nat.zero_le _) dX12_breaks_21
set_option maxRecDepth 100000 in
def f_X12_findAll_b79 (K17 : Nat → Int32 → jZ → jI → jL → Prop) (Q : jZ → jI → jL → Prop) (v0 : Nat) (v1 : Int32) (Z : jZ) (I : jI) (L : jL) : Prop := (∀ x1 : Int32, x1 = v1 + 1 → K17 v0 x1 Z I L)
set_option maxHeartbeats 4000000 in
set_option maxRecDepth 100000 in
theorem m_X12_findAll_b79 {G : jG} {Z0 : jZ} {Q : jZ → jI → jL → Prop} (E : jE G cX12_findAll RX12 w_X12_findAll 2 none { frames := 5, cells := 0, slots := 0, locals := 124 } (xrtV Z0 Q)) (K17 : Nat → Int32 → jZ → jI → jL → Prop) (hK17 : ∀ (v0 : Nat) (v1 : Int32) (Z : jZ) (I : jI) (L : jL), SH Z → jext Z0 Z → jk Z v0 12 → K17 v0 v1 Z I L → jJ G 2 17 [(0, .ref v0), (1, .int v1)] [] Z I L 0 0) (v0 : Nat) (v1 : Int32) (Z : jZ) (I : jI) (L : jL) (hZ : SH Z) (hx : jext Z0 Z) (kv0 : jk Z v0 12) (h : f_X12_findAll_b79 K17 Q v0 v1 Z I L) : jJ G 2 79 [(0, .ref v0), (1, .int v1)] [] Z I L 0 0 := by
  obtain ⟨x1, ex1⟩ : ∃ y : Int32, y = v1 + 1 := ⟨_, rfl⟩
  have h := h x1 ex1
  refine j_iinc E x1 [(1, .int x1), (0, .ref v0)] dX12_findAll_79 1 rfl (by rw [ex1]; rfl) (by decide) rfl ?_
  refine j_goto E 17 dX12_findAll_82 (by decide) ?_
  refine j_sub [1, 0] rfl ?_
  exact hK17 v0 x1 Z I L hZ hx kv0 h
set_option maxRecDepth 100000 in
def f_X12_findAll_L17  (Q : jZ → jI → jL → Prop) : Nat → Nat → Int32 → jZ → jI → jL → Prop
  | 0 => fun _ _ _ _ _ => False
  | n + 1 => fun v0 v1 Z I L => (((I v0 8) ≤ v1 → Q Z I L) ∧ (¬ ((I v0 8) ≤ v1) → (((I v0 0) ≤ 0 → Q Z I L) ∧ (¬ ((I v0 0) ≤ 0) → (f_X12_findClimb v0 v1 Z I L (fun r9 Z5 I6 L7 => ((¬ r9 = 0 → (∀ I12 : jI, I12 = jpI I6 v0 48 ((I6 v0 48) + (1 : Int32)) → (∀ I13 : jI, I13 = jpI I12 v0 49 ((I12 v0 49) + (I12 v0 41)) → (∀ I14 : jI, I14 = jpI I13 v0 50 ((I13 v0 50) + (I13 v0 42)) → f_X12_findAll_b79 (f_X12_findAll_L17 Q n) Q v0 v1 Z5 I14 L7)))) ∧ (r9 = 0 → f_X12_findAll_b79 (f_X12_findAll_L17 Q n) Q v0 v1 Z5 I6 L7))))))))
set_option maxHeartbeats 4000000 in
set_option maxRecDepth 100000 in
theorem m_X12_findAll_L17 {G : jG} {Z0 : jZ} {Q : jZ → jI → jL → Prop} (E : jE G cX12_findAll RX12 w_X12_findAll 2 none { frames := 5, cells := 0, slots := 0, locals := 124 } (xrtV Z0 Q))  : ∀ (n : Nat) (v0 : Nat) (v1 : Int32) (Z : jZ) (I : jI) (L : jL), SH Z → jext Z0 Z → jk Z v0 12 → f_X12_findAll_L17  Q n v0 v1 Z I L → jJ G 2 17 [(0, .ref v0), (1, .int v1)] [] Z I L 0 0 := by
  intro n
  induction n with
  | zero => intro v0 v1 Z I L _ _ _ h; exact h.elim
  | succ n ih =>
    intro v0 v1 Z I L hZ hx kv0 h
    have h : (((I v0 8) ≤ v1 → Q Z I L) ∧ (¬ ((I v0 8) ≤ v1) → (((I v0 0) ≤ 0 → Q Z I L) ∧ (¬ ((I v0 0) ≤ 0) → (f_X12_findClimb v0 v1 Z I L (fun r9 Z5 I6 L7 => ((¬ r9 = 0 → (∀ I12 : jI, I12 = jpI I6 v0 48 ((I6 v0 48) + (1 : Int32)) → (∀ I13 : jI, I13 = jpI I12 v0 49 ((I12 v0 49) + (I12 v0 41)) → (∀ I14 : jI, I14 = jpI I13 v0 50 ((I13 v0 50) + (I13 v0 42)) → f_X12_findAll_b79 (f_X12_findAll_L17 Q n) Q v0 v1 Z5 I14 L7)))) ∧ (r9 = 0 → f_X12_findAll_b79 (f_X12_findAll_L17 Q n) Q v0 v1 Z5 I6 L7)))))))) := h
    obtain ⟨K17, eK17⟩ : ∃ K : Nat → Int32 → jZ → jI → jL → Prop, K = f_X12_findAll_L17  Q n := ⟨_, rfl⟩
    have hK17 := ih
    clear eK17 K17
    generalize f_X12_findAll_L17  Q n = K17 at hK17 h
    refine j_iload_n E dX12_findAll_17 1 rfl ?_
    refine j_aload_n E dX12_findAll_18 0 rfl ?_
    refine j_geti E 12 8 rfl rfl (by decide) (by decide) (iw iT_12) rfl rfl (tw W_682) kv0 dX12_findAll_19 ?_
    refine j_icmp_ge E 85 dX12_findAll_22 (by decide) (fun c2 => ?_) (fun c2 => ?_)
    · have h := h.1 c2
      exact j_return E ⟨hx, hZ, rfl, h⟩ (Nat.zero_le _) (Nat.zero_le _) dX12_findAll_85
    · have h := h.2 c2
      refine j_aload_n E dX12_findAll_25 0 rfl ?_
      refine j_geti E 12 0 rfl rfl (by decide) (by decide) (iw iT_12) rfl rfl (tw W_677) kv0 dX12_findAll_26 ?_
      refine j_if_le E 85 dX12_findAll_29 (by decide) (fun c3 => ?_) (fun c3 => ?_)
      · have h := h.1 c3
        exact j_return E ⟨hx, hZ, rfl, h⟩ (Nat.zero_le _) (Nat.zero_le _) dX12_findAll_85
      · have h := h.2 c3
        refine j_aload_n E dX12_findAll_32 0 rfl ?_
        refine j_iload_n E dX12_findAll_33 1 rfl ?_
        refine j_callV E [.int v1] [] (c_X12_findClimb (gL G) (gD G) (gY G) v0 v1 Z I L _ hZ kv0 h) (gwV W_828 W_829 W_830 W_679 W_827) rfl ⟨rfl, fy_X12_findClimb⟩ ⟨by decide, by decide⟩ (c := 12) rfl (by decide) kv0 rfl rfl (Nat.le_of_ble_eq_true rfl) ⟨Nat.zero_le _, Nat.zero_le _⟩ dX12_findAll_34 (fun v4 Z5 I6 L7 q8 => ?_)
        obtain ⟨yZ5, hZ5, r9, rfl, zr9, h⟩ := q8
        have hZ := hZ5
        have hx : jext Z0 Z5 := jext_trans hx yZ5
        have k10 := (yZ5 _ _ kv0).1
        show jJ G 2 37 [(0, .ref v0), (1, .int v1)] [.int r9] Z5 I6 L7 0 0
        refine j_if_ne E 43 dX12_findAll_37 (by decide) (fun c11 => ?_) (fun c11 => ?_)
        · have h := h.1 c11
          refine j_aload_n E dX12_findAll_43 0 rfl ?_
          refine j_dup E dX12_findAll_44 rfl ?_
          refine j_geti E 12 48 rfl rfl (by decide) (by decide) (iw iT_12) rfl rfl (tw W_853) k10 dX12_findAll_45 ?_
          refine j_iconst E (v := 1) dX12_findAll_48 (by decide) ?_
          refine j_iadd E dX12_findAll_49 ?_
          refine j_puti E 12 48 rfl rfl (by decide) (by decide) (iw iT_12) tyX12_ok nmX12 rfl rfl (tw W_853) rfl rfl rfl k10 dX12_findAll_50 ?_
          refine j_nmI (fun I12 eI12 => ?_)
          have h := h I12 eI12
          refine j_aload_n E dX12_findAll_53 0 rfl ?_
          refine j_dup E dX12_findAll_54 rfl ?_
          refine j_geti E 12 49 rfl rfl (by decide) (by decide) (iw iT_12) rfl rfl (tw W_854) k10 dX12_findAll_55 ?_
          refine j_aload_n E dX12_findAll_58 0 rfl ?_
          refine j_geti E 12 41 rfl rfl (by decide) (by decide) (iw iT_12) rfl rfl (tw W_817) k10 dX12_findAll_59 ?_
          refine j_iadd E dX12_findAll_62 ?_
          refine j_puti E 12 49 rfl rfl (by decide) (by decide) (iw iT_12) tyX12_ok nmX12 rfl rfl (tw W_854) rfl rfl rfl k10 dX12_findAll_63 ?_
          refine j_nmI (fun I13 eI13 => ?_)
          have h := h I13 eI13
          refine j_aload_n E dX12_findAll_66 0 rfl ?_
          refine j_dup E dX12_findAll_67 rfl ?_
          refine j_geti E 12 50 rfl rfl (by decide) (by decide) (iw iT_12) rfl rfl (tw W_855) k10 dX12_findAll_68 ?_
          refine j_aload_n E dX12_findAll_71 0 rfl ?_
          refine j_geti E 12 42 rfl rfl (by decide) (by decide) (iw iT_12) rfl rfl (tw W_818) k10 dX12_findAll_72 ?_
          refine j_iadd E dX12_findAll_75 ?_
          refine j_puti E 12 50 rfl rfl (by decide) (by decide) (iw iT_12) tyX12_ok nmX12 rfl rfl (tw W_855) rfl rfl rfl k10 dX12_findAll_76 ?_
          refine j_nmI (fun I14 eI14 => ?_)
          have h := h I14 eI14
          refine j_sub [0, 1] rfl ?_
          exact m_X12_findAll_b79 E K17 hK17 v0 v1 Z5 I14 L7 hZ hx k10 h
        · have h := h.2 c11
          refine j_goto E 79 dX12_findAll_40 (by decide) ?_
          refine j_sub [0, 1] rfl ?_
          exact m_X12_findAll_b79 E K17 hK17 v0 v1 Z5 I6 L7 hZ hx k10 h
set_option maxRecDepth 100000 in
def f_X12_findAll (v0 : Nat) (Z : jZ) (I : jI) (L : jL) (Q : jZ → jI → jL → Prop) : Prop := (∀ I15 : jI, I15 = jpI I v0 48 (0 : Int32) → (∀ I16 : jI, I16 = jpI I15 v0 49 (0 : Int32) → (∀ I17 : jI, I17 = jpI I16 v0 50 (0 : Int32) → (∃ m17 : Nat, f_X12_findAll_L17  Q m17 v0 (0 : Int32) Z I17 L))))
set_option maxHeartbeats 4000000 in
set_option maxRecDepth 100000 in
theorem c_X12_findAll (l : Launch) (D : va_G) (cy : jC) (v0 : Nat) (Z : jZ) (I : jI) (L : jL) (Q : jZ → jI → jL → Prop) (hZ : SH Z) (kv0 : jk Z v0 12) (h : f_X12_findAll v0 Z I L Q) : jCt l yX12_findAll w_X12_findAll { frames := 5, cells := 0, slots := 0, locals := 124 } D cy [.ref v0] Z I L (xrtV Z Q) := by
  refine jCt_of (cc := cX12_findAll) (maxL := 2) (ret := none) (by decide +kernel) rfl (Nat.le_of_ble_eq_true rfl) ?_
  intro G eD eY eL E
  subst eD; subst eY; subst eL
  have E : jE G cX12_findAll RX12 w_X12_findAll 2 none { frames := 5, cells := 0, slots := 0, locals := 124 } (xrtV Z Q) := E
  have hx : jext Z Z := jext_rfl
  show jJ G 2 0 [(0, .ref v0)] [] Z I L 0 0
  refine j_aload_n E dX12_findAll_0 0 rfl ?_
  refine j_iconst E (v := 0) dX12_findAll_1 (by decide) ?_
  refine j_puti E 12 48 rfl rfl (by decide) (by decide) (iw iT_12) tyX12_ok nmX12 rfl rfl (tw W_853) rfl rfl rfl kv0 dX12_findAll_2 ?_
  refine j_nmI (fun I15 eI15 => ?_)
  have h := h I15 eI15
  refine j_aload_n E dX12_findAll_5 0 rfl ?_
  refine j_iconst E (v := 0) dX12_findAll_6 (by decide) ?_
  refine j_puti E 12 49 rfl rfl (by decide) (by decide) (iw iT_12) tyX12_ok nmX12 rfl rfl (tw W_854) rfl rfl rfl kv0 dX12_findAll_7 ?_
  refine j_nmI (fun I16 eI16 => ?_)
  have h := h I16 eI16
  refine j_aload_n E dX12_findAll_10 0 rfl ?_
  refine j_iconst E (v := 0) dX12_findAll_11 (by decide) ?_
  refine j_puti E 12 50 rfl rfl (by decide) (by decide) (iw iT_12) tyX12_ok nmX12 rfl rfl (tw W_855) rfl rfl rfl kv0 dX12_findAll_12 ?_
  refine j_nmI (fun I17 eI17 => ?_)
  have h := h I17 eI17
  refine j_iconst E (v := 0) dX12_findAll_15 (by decide) ?_
  refine j_istore_n E 1 [(1, .int (0 : Int32)), (0, .ref v0)] dX12_findAll_16 rfl (by decide) rfl ?_
  obtain ⟨n18, h⟩ := h
  refine j_sub [1, 0] rfl ?_
  exact m_X12_findAll_L17 E  n18 v0 (0 : Int32) Z I17 L hZ hx kv0 h
set_option maxRecDepth 100000 in
def f_X12_all (v0 : Nat) (Z : jZ) (I : jI) (L : jL) (Q : Int32 → jZ → jI → jL → Prop) : Prop := (∀ I1 : jI, I1 = jpI I v0 22 (0 : Int32) → (f_X12_findAll v0 Z I1 L (fun Z3 I4 L5 => (∀ I8 : jI, I8 = jpI I4 v0 21 (0 : Int32) → (f_X12_tell v0 ((I8 v0 48).toInt64) Z3 I8 L5 (fun I11 L12 => (f_X12_tell v0 ((I11 v0 50).toInt64) Z3 I11 L12 (fun I16 L17 => Q (I16 v0 49) Z3 I16 L17))))))))
set_option maxHeartbeats 4000000 in
set_option maxRecDepth 100000 in
theorem c_X12_all (l : Launch) (D : va_G) (cy : jC) (v0 : Nat) (Z : jZ) (I : jI) (L : jL) (Q : Int32 → jZ → jI → jL → Prop) (hZ : SH Z) (kv0 : jk Z v0 12) (h : f_X12_all v0 Z I L Q) : jCt l yX12_all w_X12_all { frames := 6, cells := 0, slots := 0, locals := 145 } D cy [.ref v0] Z I L (xrtI Z Q) := by
  refine jCt_of (cc := cX12_all) (maxL := 1) (ret := (some .int)) (by decide +kernel) rfl (Nat.le_of_ble_eq_true rfl) ?_
  intro G eD eY eL E
  subst eD; subst eY; subst eL
  have E : jE G cX12_all RX12 w_X12_all 1 (some .int) { frames := 6, cells := 0, slots := 0, locals := 145 } (xrtI Z Q) := E
  have hx : jext Z Z := jext_rfl
  show jJ G 1 0 [(0, .ref v0)] [] Z I L 0 0
  refine j_aload_n E dX12_all_0 0 rfl ?_
  refine j_iconst E (v := 0) dX12_all_1 (by decide) ?_
  refine j_puti E 12 22 rfl rfl (by decide) (by decide) (iw iT_12) tyX12_ok nmX12 rfl rfl (tw W_674) rfl rfl rfl kv0 dX12_all_2 ?_
  refine j_nmI (fun I1 eI1 => ?_)
  have h := h I1 eI1
  refine j_aload_n E dX12_all_5 0 rfl ?_
  refine j_callV E [] [] (c_X12_findAll (gL G) (gD G) (gY G) v0 Z I1 L _ hZ kv0 h) (gwV W_857 W_858 W_859 W_679 W_856) rfl ⟨rfl, fy_X12_findAll⟩ ⟨by decide, by decide⟩ (c := 12) rfl (by decide) kv0 rfl rfl (Nat.le_of_ble_eq_true rfl) ⟨Nat.zero_le _, Nat.zero_le _⟩ dX12_all_6 (fun v2 Z3 I4 L5 q6 => ?_)
  obtain ⟨yZ3, hZ3, rfl, h⟩ := q6
  have hZ := hZ3
  have hx : jext Z Z3 := jext_trans hx yZ3
  have k7 := (yZ3 _ _ kv0).1
  show jJ G 1 9 [(0, .ref v0)] [] Z3 I4 L5 0 0
  refine j_aload_n E dX12_all_9 0 rfl ?_
  refine j_iconst E (v := 0) dX12_all_10 (by decide) ?_
  refine j_puti E 12 21 rfl rfl (by decide) (by decide) (iw iT_12) tyX12_ok nmX12 rfl rfl (tw W_676) rfl rfl rfl k7 dX12_all_11 ?_
  refine j_nmI (fun I8 eI8 => ?_)
  have h := h I8 eI8
  refine j_aload_n E dX12_all_14 0 rfl ?_
  refine j_aload_n E dX12_all_15 0 rfl ?_
  refine j_geti E 12 48 rfl rfl (by decide) (by decide) (iw iT_12) rfl rfl (tw W_853) k7 dX12_all_16 ?_
  refine j_i2l E dX12_all_19 ?_
  refine j_callV E [.long ((I8 v0 48).toInt64)] [] (c_X12_tell (gL G) (gD G) (gY G) v0 ((I8 v0 48).toInt64) Z3 I8 L5 _ hZ k7 h) (gwV W_784 W_785 W_786 W_679 W_783) rfl ⟨rfl, fy_X12_tell⟩ ⟨by decide, by decide⟩ (c := 12) rfl (by decide) k7 rfl rfl (Nat.le_of_ble_eq_true rfl) ⟨Nat.zero_le _, Nat.zero_le _⟩ dX12_all_20 (fun v9 Z10 I11 L12 q13 => ?_)
  obtain ⟨rfl, rfl, h⟩ := q13
  show jJ G 1 23 [(0, .ref v0)] [] Z3 I11 L12 0 0
  refine j_aload_n E dX12_all_23 0 rfl ?_
  refine j_aload_n E dX12_all_24 0 rfl ?_
  refine j_geti E 12 50 rfl rfl (by decide) (by decide) (iw iT_12) rfl rfl (tw W_855) k7 dX12_all_25 ?_
  refine j_i2l E dX12_all_28 ?_
  refine j_callV E [.long ((I11 v0 50).toInt64)] [] (c_X12_tell (gL G) (gD G) (gY G) v0 ((I11 v0 50).toInt64) Z3 I11 L12 _ hZ k7 h) (gwV W_784 W_785 W_786 W_679 W_783) rfl ⟨rfl, fy_X12_tell⟩ ⟨by decide, by decide⟩ (c := 12) rfl (by decide) k7 rfl rfl (Nat.le_of_ble_eq_true rfl) ⟨Nat.zero_le _, Nat.zero_le _⟩ dX12_all_29 (fun v14 Z15 I16 L17 q18 => ?_)
  obtain ⟨rfl, rfl, h⟩ := q18
  show jJ G 1 32 [(0, .ref v0)] [] Z3 I16 L17 0 0
  refine j_aload_n E dX12_all_32 0 rfl ?_
  refine j_geti E 12 49 rfl rfl (by decide) (by decide) (iw iT_12) rfl rfl (tw W_854) k7 dX12_all_33 ?_
  exact j_ireturn E ⟨hx, hZ, _, rfl, h⟩ (Nat.zero_le _) (Nat.zero_le _) dX12_all_36
set_option maxRecDepth 100000 in
def f_X12_tellMore_b62  (Z : jZ) (Q : Int32 → jI → jL → Prop)  (I : jI) (L : jL) : Prop := Q (1 : Int32) I L
set_option maxHeartbeats 4000000 in
set_option maxRecDepth 100000 in
theorem m_X12_tellMore_b62 {G : jG} {Z : jZ} {Q : Int32 → jI → jL → Prop} (E : jE G cX12_tellMore RX12 w_X12_tellMore 4 (some .int) { frames := 1, cells := 0, slots := 0, locals := 22 } (rtI Z Q)) (hZ : SH Z)   (I : jI) (L : jL)  (h : f_X12_tellMore_b62  Z Q  I L) : jJ G 4 62 [] [] Z I L 0 0 := by
  refine j_iconst E (v := 1) dX12_tellMore_62 (by decide) ?_
  refine j_goto E 67 dX12_tellMore_63 (by decide) ?_
  exact j_ireturn E ⟨rfl, _, rfl, h⟩ (Nat.zero_le _) (Nat.zero_le _) dX12_tellMore_67
set_option maxRecDepth 100000 in
def f_X12_tellMore (v0 : Nat) (v1 : Int32) (v2 : Int32) (v3 : Int32) (Z : jZ) (I : jI) (L : jL) (Q : Int32 → jI → jL → Prop) : Prop := (∀ I1 : jI, I1 = jpI I v0 21 (0 : Int32) → (f_X12_tell v0 (((I1 v0 48) - v1).toInt64) Z I1 L (fun I4 L5 => (f_X12_tell v0 (((I4 v0 49) - v2).toInt64) Z I4 L5 (fun I9 L10 => (f_X12_tell v0 (((I9 v0 50) - v3).toInt64) Z I9 L10 (fun I14 L15 => ((¬ (I14 v0 48) = v1 → f_X12_tellMore_b62  Z Q  I14 L15) ∧ ((I14 v0 48) = v1 → ((¬ (I14 v0 49) = v2 → f_X12_tellMore_b62  Z Q  I14 L15) ∧ ((I14 v0 49) = v2 → (((I14 v0 50) = v3 → Q (0 : Int32) I14 L15) ∧ (¬ ((I14 v0 50) = v3) → f_X12_tellMore_b62  Z Q  I14 L15)))))))))))))
set_option maxHeartbeats 4000000 in
set_option maxRecDepth 100000 in
theorem c_X12_tellMore (l : Launch) (D : va_G) (cy : jC) (v0 : Nat) (v1 : Int32) (v2 : Int32) (v3 : Int32) (Z : jZ) (I : jI) (L : jL) (Q : Int32 → jI → jL → Prop) (hZ : SH Z) (kv0 : jk Z v0 12) (h : f_X12_tellMore v0 v1 v2 v3 Z I L Q) : jCt l yX12_tellMore w_X12_tellMore { frames := 1, cells := 0, slots := 0, locals := 22 } D cy [.ref v0, .int v1, .int v2, .int v3] Z I L (rtI Z Q) := by
  refine jCt_of (cc := cX12_tellMore) (maxL := 4) (ret := (some .int)) (by decide +kernel) rfl (Nat.le_of_ble_eq_true rfl) ?_
  intro G eD eY eL E
  subst eD; subst eY; subst eL
  have E : jE G cX12_tellMore RX12 w_X12_tellMore 4 (some .int) { frames := 1, cells := 0, slots := 0, locals := 22 } (rtI Z Q) := E
  show jJ G 4 0 [(0, .ref v0), (1, .int v1), (2, .int v2), (3, .int v3)] [] Z I L 0 0
  refine j_aload_n E dX12_tellMore_0 0 rfl ?_
  refine j_iconst E (v := 0) dX12_tellMore_1 (by decide) ?_
  refine j_puti E 12 21 rfl rfl (by decide) (by decide) (iw iT_12) tyX12_ok nmX12 rfl rfl (tw W_676) rfl rfl rfl kv0 dX12_tellMore_2 ?_
  refine j_nmI (fun I1 eI1 => ?_)
  have h := h I1 eI1
  refine j_aload_n E dX12_tellMore_5 0 rfl ?_
  refine j_aload_n E dX12_tellMore_6 0 rfl ?_
  refine j_geti E 12 48 rfl rfl (by decide) (by decide) (iw iT_12) rfl rfl (tw W_853) kv0 dX12_tellMore_7 ?_
  refine j_iload_n E dX12_tellMore_10 1 rfl ?_
  refine j_isub E dX12_tellMore_11 ?_
  refine j_i2l E dX12_tellMore_12 ?_
  refine j_callV E [.long (((I1 v0 48) - v1).toInt64)] [] (c_X12_tell (gL G) (gD G) (gY G) v0 (((I1 v0 48) - v1).toInt64) Z I1 L _ hZ kv0 h) (gwV W_784 W_785 W_786 W_679 W_783) rfl ⟨rfl, fy_X12_tell⟩ ⟨by decide, by decide⟩ (c := 12) rfl (by decide) kv0 rfl rfl (Nat.le_of_ble_eq_true rfl) ⟨Nat.zero_le _, Nat.zero_le _⟩ dX12_tellMore_13 (fun v2 Z3 I4 L5 q6 => ?_)
  obtain ⟨rfl, rfl, h⟩ := q6
  show jJ G 4 16 [(0, .ref v0), (1, .int v1), (2, .int v2), (3, .int v3)] [] Z I4 L5 0 0
  refine j_aload_n E dX12_tellMore_16 0 rfl ?_
  refine j_aload_n E dX12_tellMore_17 0 rfl ?_
  refine j_geti E 12 49 rfl rfl (by decide) (by decide) (iw iT_12) rfl rfl (tw W_854) kv0 dX12_tellMore_18 ?_
  refine j_iload_n E dX12_tellMore_21 2 rfl ?_
  refine j_isub E dX12_tellMore_22 ?_
  refine j_i2l E dX12_tellMore_23 ?_
  refine j_callV E [.long (((I4 v0 49) - v2).toInt64)] [] (c_X12_tell (gL G) (gD G) (gY G) v0 (((I4 v0 49) - v2).toInt64) Z I4 L5 _ hZ kv0 h) (gwV W_784 W_785 W_786 W_679 W_783) rfl ⟨rfl, fy_X12_tell⟩ ⟨by decide, by decide⟩ (c := 12) rfl (by decide) kv0 rfl rfl (Nat.le_of_ble_eq_true rfl) ⟨Nat.zero_le _, Nat.zero_le _⟩ dX12_tellMore_24 (fun v7 Z8 I9 L10 q11 => ?_)
  obtain ⟨rfl, rfl, h⟩ := q11
  show jJ G 4 27 [(0, .ref v0), (1, .int v1), (2, .int v2), (3, .int v3)] [] Z I9 L10 0 0
  refine j_aload_n E dX12_tellMore_27 0 rfl ?_
  refine j_aload_n E dX12_tellMore_28 0 rfl ?_
  refine j_geti E 12 50 rfl rfl (by decide) (by decide) (iw iT_12) rfl rfl (tw W_855) kv0 dX12_tellMore_29 ?_
  refine j_iload_n E dX12_tellMore_32 3 rfl ?_
  refine j_isub E dX12_tellMore_33 ?_
  refine j_i2l E dX12_tellMore_34 ?_
  refine j_callV E [.long (((I9 v0 50) - v3).toInt64)] [] (c_X12_tell (gL G) (gD G) (gY G) v0 (((I9 v0 50) - v3).toInt64) Z I9 L10 _ hZ kv0 h) (gwV W_784 W_785 W_786 W_679 W_783) rfl ⟨rfl, fy_X12_tell⟩ ⟨by decide, by decide⟩ (c := 12) rfl (by decide) kv0 rfl rfl (Nat.le_of_ble_eq_true rfl) ⟨Nat.zero_le _, Nat.zero_le _⟩ dX12_tellMore_35 (fun v12 Z13 I14 L15 q16 => ?_)
  obtain ⟨rfl, rfl, h⟩ := q16
  show jJ G 4 38 [(0, .ref v0), (1, .int v1), (2, .int v2), (3, .int v3)] [] Z I14 L15 0 0
  refine j_aload_n E dX12_tellMore_38 0 rfl ?_
  refine j_geti E 12 48 rfl rfl (by decide) (by decide) (iw iT_12) rfl rfl (tw W_853) kv0 dX12_tellMore_39 ?_
  refine j_iload_n E dX12_tellMore_42 1 rfl ?_
  refine j_icmp_ne E 62 dX12_tellMore_43 (by decide) (fun c17 => ?_) (fun c17 => ?_)
  · have h := h.1 c17
    refine j_sub [] rfl ?_
    exact m_X12_tellMore_b62 E hZ   I14 L15  h
  · have h := h.2 c17
    refine j_aload_n E dX12_tellMore_46 0 rfl ?_
    refine j_geti E 12 49 rfl rfl (by decide) (by decide) (iw iT_12) rfl rfl (tw W_854) kv0 dX12_tellMore_47 ?_
    refine j_iload_n E dX12_tellMore_50 2 rfl ?_
    refine j_icmp_ne E 62 dX12_tellMore_51 (by decide) (fun c18 => ?_) (fun c18 => ?_)
    · have h := h.1 c18
      refine j_sub [] rfl ?_
      exact m_X12_tellMore_b62 E hZ   I14 L15  h
    · have h := h.2 c18
      refine j_aload_n E dX12_tellMore_54 0 rfl ?_
      refine j_geti E 12 50 rfl rfl (by decide) (by decide) (iw iT_12) rfl rfl (tw W_855) kv0 dX12_tellMore_55 ?_
      refine j_iload_n E dX12_tellMore_58 3 rfl ?_
      refine j_icmp_eq E 66 dX12_tellMore_59 (by decide) (fun c19 => ?_) (fun c19 => ?_)
      · have h := h.1 c19
        refine j_iconst E (v := 0) dX12_tellMore_66 (by decide) ?_
        exact j_ireturn E ⟨rfl, _, rfl, h⟩ (Nat.zero_le _) (Nat.zero_le _) dX12_tellMore_67
      · have h := h.2 c19
        refine j_sub [] rfl ?_
        exact m_X12_tellMore_b62 E hZ   I14 L15  h
set_option maxRecDepth 100000 in
def f_X12_whole (v0 : Nat) (v1 : Int32) (Z : jZ) (I : jI) (L : jL) (Q : Int32 → jZ → jI → jL → Prop) : Prop := (∀ I1 : jI, I1 = jpI I v0 22 (0 : Int32) → (f_X12_isStep v0 v1 Z I1 L (fun r7 I4 L5 => ((¬ r7 = 0 → (f_X12_findAll v0 Z I4 L5 (fun Z10 I11 L12 => (∀ x15 : Int32, x15 = (I11 v0 48) → (∀ x16 : Int32, x16 = (I11 v0 49) → (∀ x17 : Int32, x17 = (I11 v0 50) → (∀ b18 : Nat, jr Z10 v0 2 = some b18 → (vp_in v1 24 ∧ (∀ x20 : Int32, x20 = (I11 b18 v1.toNatClampNeg) → (∀ b21 : Nat, jr Z10 v0 2 = some b21 → (vp_in v1 24 ∧ (∀ I23 : jI, I23 = jpI I11 b21 v1.toNatClampNeg (9 : Int32) → (f_X12_findAll v0 Z10 I23 L12 (fun Z25 I26 L27 => (∀ b30 : Nat, jr Z25 v0 2 = some b30 → (vp_in v1 24 ∧ (∀ I32 : jI, I32 = jpI I26 b30 v1.toNatClampNeg x20 → (f_X12_tellMore v0 x15 x16 x17 Z25 I32 L27 (fun r38 I35 L36 => Q r38 Z25 I35 L36))))))))))))))))))) ∧ (r7 = 0 → Q (-1 : Int32) Z I4 L5)))))
set_option maxHeartbeats 4000000 in
set_option maxRecDepth 100000 in
theorem c_X12_whole (l : Launch) (D : va_G) (cy : jC) (v0 : Nat) (v1 : Int32) (Z : jZ) (I : jI) (L : jL) (Q : Int32 → jZ → jI → jL → Prop) (hZ : SH Z) (kv0 : jk Z v0 12) (h : f_X12_whole v0 v1 Z I L Q) : jCt l yX12_whole w_X12_whole { frames := 6, cells := 0, slots := 0, locals := 145 } D cy [.ref v0, .int v1] Z I L (xrtI Z Q) := by
  refine jCt_of (cc := cX12_whole) (maxL := 6) (ret := (some .int)) (by decide +kernel) rfl (Nat.le_of_ble_eq_true rfl) ?_
  intro G eD eY eL E
  subst eD; subst eY; subst eL
  have E : jE G cX12_whole RX12 w_X12_whole 6 (some .int) { frames := 6, cells := 0, slots := 0, locals := 145 } (xrtI Z Q) := E
  have hx : jext Z Z := jext_rfl
  show jJ G 6 0 [(0, .ref v0), (1, .int v1)] [] Z I L 0 0
  refine j_aload_n E dX12_whole_0 0 rfl ?_
  refine j_iconst E (v := 0) dX12_whole_1 (by decide) ?_
  refine j_puti E 12 22 rfl rfl (by decide) (by decide) (iw iT_12) tyX12_ok nmX12 rfl rfl (tw W_674) rfl rfl rfl kv0 dX12_whole_2 ?_
  refine j_nmI (fun I1 eI1 => ?_)
  have h := h I1 eI1
  refine j_aload_n E dX12_whole_5 0 rfl ?_
  refine j_iload_n E dX12_whole_6 1 rfl ?_
  refine j_callV E [.int v1] [] (c_X12_isStep (gL G) (gD G) (gY G) v0 v1 Z I1 L _ hZ kv0 h) (gwV W_752 W_753 W_754 W_679 W_751) rfl ⟨rfl, fy_X12_isStep⟩ ⟨by decide, by decide⟩ (c := 12) rfl (by decide) kv0 rfl rfl (Nat.le_of_ble_eq_true rfl) ⟨Nat.zero_le _, Nat.zero_le _⟩ dX12_whole_7 (fun v2 Z3 I4 L5 q6 => ?_)
  obtain ⟨rfl, r7, rfl, zr7, h⟩ := q6
  show jJ G 6 10 [(0, .ref v0), (1, .int v1)] [.int r7] Z I4 L5 0 0
  refine j_if_ne E 15 dX12_whole_10 (by decide) (fun c8 => ?_) (fun c8 => ?_)
  · have h := h.1 c8
    refine j_aload_n E dX12_whole_15 0 rfl ?_
    refine j_callV E [] [] (c_X12_findAll (gL G) (gD G) (gY G) v0 Z I4 L5 _ hZ kv0 h) (gwV W_857 W_858 W_859 W_679 W_856) rfl ⟨rfl, fy_X12_findAll⟩ ⟨by decide, by decide⟩ (c := 12) rfl (by decide) kv0 rfl rfl (Nat.le_of_ble_eq_true rfl) ⟨Nat.zero_le _, Nat.zero_le _⟩ dX12_whole_16 (fun v9 Z10 I11 L12 q13 => ?_)
    obtain ⟨yZ10, hZ10, rfl, h⟩ := q13
    have hZ := hZ10
    have hx : jext Z Z10 := jext_trans hx yZ10
    have k14 := (yZ10 _ _ kv0).1
    show jJ G 6 19 [(0, .ref v0), (1, .int v1)] [] Z10 I11 L12 0 0
    refine j_aload_n E dX12_whole_19 0 rfl ?_
    refine j_geti E 12 48 rfl rfl (by decide) (by decide) (iw iT_12) rfl rfl (tw W_853) k14 dX12_whole_20 ?_
    refine j_topi (fun x15 ex15 => ?_)
    have h := h x15 ex15
    refine j_istore_n E 2 [(2, .int x15), (0, .ref v0), (1, .int v1)] dX12_whole_23 rfl (by decide) rfl ?_
    refine j_aload_n E dX12_whole_24 1 rfl ?_
    refine j_geti E 12 49 rfl rfl (by decide) (by decide) (iw iT_12) rfl rfl (tw W_854) k14 dX12_whole_25 ?_
    refine j_topi (fun x16 ex16 => ?_)
    have h := h x16 ex16
    refine j_istore_n E 3 [(3, .int x16), (2, .int x15), (0, .ref v0), (1, .int v1)] dX12_whole_28 rfl (by decide) rfl ?_
    refine j_aload_n E dX12_whole_29 2 rfl ?_
    refine j_geti E 12 50 rfl rfl (by decide) (by decide) (iw iT_12) rfl rfl (tw W_855) k14 dX12_whole_30 ?_
    refine j_topi (fun x17 ex17 => ?_)
    have h := h x17 ex17
    refine j_istore E 4 [(4, .int x17), (3, .int x16), (2, .int x15), (0, .ref v0), (1, .int v1)] dX12_whole_33 (by decide) rfl ?_
    refine j_aload_n E dX12_whole_35 3 rfl ?_
    obtain ⟨b18, eb18, kb18, lb18⟩ := sh_f hZ k14 (j := 2) (k := 14) (m := 24) rfl
    have h := h b18 eb18
    refine j_getr E 12 2 rfl rfl (by decide) (by decide) (iw iT_12) rfl rfl (tw W_726) k14 eb18 dX12_whole_36 ?_
    refine j_iload_n E dX12_whole_39 4 rfl ?_
    obtain ⟨o19, h⟩ := h
    refine j_iald E kb18 (by rw [lb18]; exact o19) dX12_whole_40 ?_
    refine j_topi (fun x20 ex20 => ?_)
    have h := h x20 ex20
    refine j_istore E 5 [(5, .int x20), (4, .int x17), (3, .int x16), (2, .int x15), (0, .ref v0), (1, .int v1)] dX12_whole_41 (by decide) rfl ?_
    refine j_aload_n E dX12_whole_43 4 rfl ?_
    obtain ⟨b21, eb21, kb21, lb21⟩ := sh_f hZ k14 (j := 2) (k := 14) (m := 24) rfl
    have h := h b21 eb21
    refine j_getr E 12 2 rfl rfl (by decide) (by decide) (iw iT_12) rfl rfl (tw W_726) k14 eb21 dX12_whole_44 ?_
    refine j_iload_n E dX12_whole_47 5 rfl ?_
    refine j_bipush E (v := 9) dX12_whole_48 (by decide) ?_
    obtain ⟨o22, h⟩ := h
    refine j_iast E kb21 (by rw [lb21]; exact o22) dX12_whole_50 ?_
    refine j_nmI (fun I23 eI23 => ?_)
    have h := h I23 eI23
    refine j_aload_n E dX12_whole_51 4 rfl ?_
    refine j_callV E [] [] (c_X12_findAll (gL G) (gD G) (gY G) v0 Z10 I23 L12 _ hZ k14 h) (gwV W_857 W_858 W_859 W_679 W_856) rfl ⟨rfl, fy_X12_findAll⟩ ⟨by decide, by decide⟩ (c := 12) rfl (by decide) k14 rfl rfl (Nat.le_of_ble_eq_true rfl) ⟨Nat.zero_le _, Nat.zero_le _⟩ dX12_whole_52 (fun v24 Z25 I26 L27 q28 => ?_)
    obtain ⟨yZ25, hZ25, rfl, h⟩ := q28
    have hZ := hZ25
    have hx : jext Z Z25 := jext_trans hx yZ25
    have k29 := (yZ25 _ _ k14).1
    show jJ G 6 55 [(5, .int x20), (4, .int x17), (3, .int x16), (2, .int x15), (0, .ref v0), (1, .int v1)] [] Z25 I26 L27 0 0
    refine j_aload_n E dX12_whole_55 4 rfl ?_
    obtain ⟨b30, eb30, kb30, lb30⟩ := sh_f hZ k29 (j := 2) (k := 14) (m := 24) rfl
    have h := h b30 eb30
    refine j_getr E 12 2 rfl rfl (by decide) (by decide) (iw iT_12) rfl rfl (tw W_726) k29 eb30 dX12_whole_56 ?_
    refine j_iload_n E dX12_whole_59 5 rfl ?_
    refine j_iload E dX12_whole_60 0 rfl ?_
    obtain ⟨o31, h⟩ := h
    refine j_iast E kb30 (by rw [lb30]; exact o31) dX12_whole_62 ?_
    refine j_nmI (fun I32 eI32 => ?_)
    have h := h I32 eI32
    refine j_aload_n E dX12_whole_63 4 rfl ?_
    refine j_iload_n E dX12_whole_64 3 rfl ?_
    refine j_iload_n E dX12_whole_65 2 rfl ?_
    refine j_iload E dX12_whole_66 1 rfl ?_
    refine j_callV E [.int x15, .int x16, .int x17] [] (c_X12_tellMore (gL G) (gD G) (gY G) v0 x15 x16 x17 Z25 I32 L27 _ hZ k29 h) (gwV W_861 W_862 W_863 W_679 W_860) rfl ⟨rfl, fy_X12_tellMore⟩ ⟨by decide, by decide⟩ (c := 12) rfl (by decide) k29 rfl rfl (Nat.le_of_ble_eq_true rfl) ⟨Nat.zero_le _, Nat.zero_le _⟩ dX12_whole_68 (fun v33 Z34 I35 L36 q37 => ?_)
    obtain ⟨rfl, r38, rfl, h⟩ := q37
    show jJ G 6 71 [(5, .int x20), (4, .int x17), (3, .int x16), (2, .int x15), (0, .ref v0), (1, .int v1)] [.int r38] Z25 I35 L36 0 0
    exact j_ireturn E ⟨hx, hZ, _, rfl, h⟩ (Nat.zero_le _) (Nat.zero_le _) dX12_whole_71
  · have h := h.2 c8
    refine j_iconst E (v := -1) dX12_whole_13 (by decide) ?_
    exact j_ireturn E ⟨hx, hZ, _, rfl, h⟩ (Nat.zero_le _) (Nat.zero_le _) dX12_whole_14
set_option maxRecDepth 100000 in
def f_X12_shut (v0 : Nat) (v1 : Int32) (Z : jZ) (I : jI) (L : jL) (Q : Int32 → jZ → jI → jL → Prop) : Prop := (∀ I1 : jI, I1 = jpI I v0 22 (0 : Int32) → (f_X12_isStep v0 v1 Z I1 L (fun r7 I4 L5 => ((¬ r7 = 0 → (f_X12_findAll v0 Z I4 L5 (fun Z10 I11 L12 => (∀ x15 : Int32, x15 = (I11 v0 48) → (∀ x16 : Int32, x16 = (I11 v0 49) → (∀ x17 : Int32, x17 = (I11 v0 50) → (∀ I18 : jI, I18 = jpI I11 v0 39 v1 → (f_X12_findAll v0 Z10 I18 L12 (fun Z20 I21 L22 => (∀ I25 : jI, I25 = jpI I21 v0 39 (-1 : Int32) → (f_X12_tellMore v0 x15 x16 x17 Z20 I25 L22 (fun r31 I28 L29 => Q r31 Z20 I28 L29)))))))))))) ∧ (r7 = 0 → Q (-1 : Int32) Z I4 L5)))))
set_option maxHeartbeats 4000000 in
set_option maxRecDepth 100000 in
theorem c_X12_shut (l : Launch) (D : va_G) (cy : jC) (v0 : Nat) (v1 : Int32) (Z : jZ) (I : jI) (L : jL) (Q : Int32 → jZ → jI → jL → Prop) (hZ : SH Z) (kv0 : jk Z v0 12) (h : f_X12_shut v0 v1 Z I L Q) : jCt l yX12_shut w_X12_shut { frames := 6, cells := 0, slots := 0, locals := 145 } D cy [.ref v0, .int v1] Z I L (xrtI Z Q) := by
  refine jCt_of (cc := cX12_shut) (maxL := 5) (ret := (some .int)) (by decide +kernel) rfl (Nat.le_of_ble_eq_true rfl) ?_
  intro G eD eY eL E
  subst eD; subst eY; subst eL
  have E : jE G cX12_shut RX12 w_X12_shut 5 (some .int) { frames := 6, cells := 0, slots := 0, locals := 145 } (xrtI Z Q) := E
  have hx : jext Z Z := jext_rfl
  show jJ G 5 0 [(0, .ref v0), (1, .int v1)] [] Z I L 0 0
  refine j_aload_n E dX12_shut_0 0 rfl ?_
  refine j_iconst E (v := 0) dX12_shut_1 (by decide) ?_
  refine j_puti E 12 22 rfl rfl (by decide) (by decide) (iw iT_12) tyX12_ok nmX12 rfl rfl (tw W_674) rfl rfl rfl kv0 dX12_shut_2 ?_
  refine j_nmI (fun I1 eI1 => ?_)
  have h := h I1 eI1
  refine j_aload_n E dX12_shut_5 0 rfl ?_
  refine j_iload_n E dX12_shut_6 1 rfl ?_
  refine j_callV E [.int v1] [] (c_X12_isStep (gL G) (gD G) (gY G) v0 v1 Z I1 L _ hZ kv0 h) (gwV W_752 W_753 W_754 W_679 W_751) rfl ⟨rfl, fy_X12_isStep⟩ ⟨by decide, by decide⟩ (c := 12) rfl (by decide) kv0 rfl rfl (Nat.le_of_ble_eq_true rfl) ⟨Nat.zero_le _, Nat.zero_le _⟩ dX12_shut_7 (fun v2 Z3 I4 L5 q6 => ?_)
  obtain ⟨rfl, r7, rfl, zr7, h⟩ := q6
  show jJ G 5 10 [(0, .ref v0), (1, .int v1)] [.int r7] Z I4 L5 0 0
  refine j_if_ne E 15 dX12_shut_10 (by decide) (fun c8 => ?_) (fun c8 => ?_)
  · have h := h.1 c8
    refine j_aload_n E dX12_shut_15 0 rfl ?_
    refine j_callV E [] [] (c_X12_findAll (gL G) (gD G) (gY G) v0 Z I4 L5 _ hZ kv0 h) (gwV W_857 W_858 W_859 W_679 W_856) rfl ⟨rfl, fy_X12_findAll⟩ ⟨by decide, by decide⟩ (c := 12) rfl (by decide) kv0 rfl rfl (Nat.le_of_ble_eq_true rfl) ⟨Nat.zero_le _, Nat.zero_le _⟩ dX12_shut_16 (fun v9 Z10 I11 L12 q13 => ?_)
    obtain ⟨yZ10, hZ10, rfl, h⟩ := q13
    have hZ := hZ10
    have hx : jext Z Z10 := jext_trans hx yZ10
    have k14 := (yZ10 _ _ kv0).1
    show jJ G 5 19 [(0, .ref v0), (1, .int v1)] [] Z10 I11 L12 0 0
    refine j_aload_n E dX12_shut_19 0 rfl ?_
    refine j_geti E 12 48 rfl rfl (by decide) (by decide) (iw iT_12) rfl rfl (tw W_853) k14 dX12_shut_20 ?_
    refine j_topi (fun x15 ex15 => ?_)
    have h := h x15 ex15
    refine j_istore_n E 2 [(2, .int x15), (0, .ref v0), (1, .int v1)] dX12_shut_23 rfl (by decide) rfl ?_
    refine j_aload_n E dX12_shut_24 1 rfl ?_
    refine j_geti E 12 49 rfl rfl (by decide) (by decide) (iw iT_12) rfl rfl (tw W_854) k14 dX12_shut_25 ?_
    refine j_topi (fun x16 ex16 => ?_)
    have h := h x16 ex16
    refine j_istore_n E 3 [(3, .int x16), (2, .int x15), (0, .ref v0), (1, .int v1)] dX12_shut_28 rfl (by decide) rfl ?_
    refine j_aload_n E dX12_shut_29 2 rfl ?_
    refine j_geti E 12 50 rfl rfl (by decide) (by decide) (iw iT_12) rfl rfl (tw W_855) k14 dX12_shut_30 ?_
    refine j_topi (fun x17 ex17 => ?_)
    have h := h x17 ex17
    refine j_istore E 4 [(4, .int x17), (3, .int x16), (2, .int x15), (0, .ref v0), (1, .int v1)] dX12_shut_33 (by decide) rfl ?_
    refine j_aload_n E dX12_shut_35 3 rfl ?_
    refine j_iload_n E dX12_shut_36 4 rfl ?_
    refine j_puti E 12 39 rfl rfl (by decide) (by decide) (iw iT_12) tyX12_ok nmX12 rfl rfl (tw W_808) rfl rfl rfl k14 dX12_shut_37 ?_
    refine j_nmI (fun I18 eI18 => ?_)
    have h := h I18 eI18
    refine j_aload_n E dX12_shut_40 3 rfl ?_
    refine j_callV E [] [] (c_X12_findAll (gL G) (gD G) (gY G) v0 Z10 I18 L12 _ hZ k14 h) (gwV W_857 W_858 W_859 W_679 W_856) rfl ⟨rfl, fy_X12_findAll⟩ ⟨by decide, by decide⟩ (c := 12) rfl (by decide) k14 rfl rfl (Nat.le_of_ble_eq_true rfl) ⟨Nat.zero_le _, Nat.zero_le _⟩ dX12_shut_41 (fun v19 Z20 I21 L22 q23 => ?_)
    obtain ⟨yZ20, hZ20, rfl, h⟩ := q23
    have hZ := hZ20
    have hx : jext Z Z20 := jext_trans hx yZ20
    have k24 := (yZ20 _ _ k14).1
    show jJ G 5 44 [(4, .int x17), (3, .int x16), (2, .int x15), (0, .ref v0), (1, .int v1)] [] Z20 I21 L22 0 0
    refine j_aload_n E dX12_shut_44 3 rfl ?_
    refine j_iconst E (v := -1) dX12_shut_45 (by decide) ?_
    refine j_puti E 12 39 rfl rfl (by decide) (by decide) (iw iT_12) tyX12_ok nmX12 rfl rfl (tw W_808) rfl rfl rfl k24 dX12_shut_46 ?_
    refine j_nmI (fun I25 eI25 => ?_)
    have h := h I25 eI25
    refine j_aload_n E dX12_shut_49 3 rfl ?_
    refine j_iload_n E dX12_shut_50 2 rfl ?_
    refine j_iload_n E dX12_shut_51 1 rfl ?_
    refine j_iload E dX12_shut_52 0 rfl ?_
    refine j_callV E [.int x15, .int x16, .int x17] [] (c_X12_tellMore (gL G) (gD G) (gY G) v0 x15 x16 x17 Z20 I25 L22 _ hZ k24 h) (gwV W_861 W_862 W_863 W_679 W_860) rfl ⟨rfl, fy_X12_tellMore⟩ ⟨by decide, by decide⟩ (c := 12) rfl (by decide) k24 rfl rfl (Nat.le_of_ble_eq_true rfl) ⟨Nat.zero_le _, Nat.zero_le _⟩ dX12_shut_54 (fun v26 Z27 I28 L29 q30 => ?_)
    obtain ⟨rfl, r31, rfl, h⟩ := q30
    show jJ G 5 57 [(4, .int x17), (3, .int x16), (2, .int x15), (0, .ref v0), (1, .int v1)] [.int r31] Z20 I28 L29 0 0
    exact j_ireturn E ⟨hx, hZ, _, rfl, h⟩ (Nat.zero_le _) (Nat.zero_le _) dX12_shut_57
  · have h := h.2 c8
    refine j_iconst E (v := -1) dX12_shut_13 (by decide) ?_
    exact j_ireturn E ⟨hx, hZ, _, rfl, h⟩ (Nat.zero_le _) (Nat.zero_le _) dX12_shut_14
set_option maxRecDepth 100000 in
def f_X12_mends (v0 : Nat) (v1 : Int32) (Z : jZ) (I : jI) (L : jL) (Q : Int32 → jI → jL → Prop) : Prop := (∀ I1 : jI, I1 = jpI I v0 22 (0 : Int32) → (f_X12_isStep v0 v1 Z I1 L (fun r7 I4 L5 => ((¬ r7 = 0 → (∀ b9 : Nat, jr Z v0 2 = some b9 → (vp_in v1 24 ∧ (∀ b11 : Nat, jr Z v0 1 = some b11 → (vp_in v1 24 ∧ (∀ x13 : Int32, x13 = (((9 : Int32) - (I4 b9 v1.toNatClampNeg)) * (I4 b11 v1.toNatClampNeg)) → (f_X12_earn v0 v1 x13 (-1 : Int32) Z I4 L5 (fun I16 L17 => (∀ b19 : Nat, jr Z v0 2 = some b19 → (vp_in v1 24 ∧ (∀ I21 : jI, I21 = jpI I16 b19 v1.toNatClampNeg (9 : Int32) → Q x13 I21 L17))))))))))) ∧ (r7 = 0 → Q (-1 : Int32) I4 L5)))))
set_option maxHeartbeats 4000000 in
set_option maxRecDepth 100000 in
theorem c_X12_mends (l : Launch) (D : va_G) (cy : jC) (v0 : Nat) (v1 : Int32) (Z : jZ) (I : jI) (L : jL) (Q : Int32 → jI → jL → Prop) (hZ : SH Z) (kv0 : jk Z v0 12) (h : f_X12_mends v0 v1 Z I L Q) : jCt l yX12_mends w_X12_mends { frames := 2, cells := 0, slots := 0, locals := 53 } D cy [.ref v0, .int v1] Z I L (rtI Z Q) := by
  refine jCt_of (cc := cX12_mends) (maxL := 3) (ret := (some .int)) (by decide +kernel) rfl (Nat.le_of_ble_eq_true rfl) ?_
  intro G eD eY eL E
  subst eD; subst eY; subst eL
  have E : jE G cX12_mends RX12 w_X12_mends 3 (some .int) { frames := 2, cells := 0, slots := 0, locals := 53 } (rtI Z Q) := E
  show jJ G 3 0 [(0, .ref v0), (1, .int v1)] [] Z I L 0 0
  refine j_aload_n E dX12_mends_0 0 rfl ?_
  refine j_iconst E (v := 0) dX12_mends_1 (by decide) ?_
  refine j_puti E 12 22 rfl rfl (by decide) (by decide) (iw iT_12) tyX12_ok nmX12 rfl rfl (tw W_674) rfl rfl rfl kv0 dX12_mends_2 ?_
  refine j_nmI (fun I1 eI1 => ?_)
  have h := h I1 eI1
  refine j_aload_n E dX12_mends_5 0 rfl ?_
  refine j_iload_n E dX12_mends_6 1 rfl ?_
  refine j_callV E [.int v1] [] (c_X12_isStep (gL G) (gD G) (gY G) v0 v1 Z I1 L _ hZ kv0 h) (gwV W_752 W_753 W_754 W_679 W_751) rfl ⟨rfl, fy_X12_isStep⟩ ⟨by decide, by decide⟩ (c := 12) rfl (by decide) kv0 rfl rfl (Nat.le_of_ble_eq_true rfl) ⟨Nat.zero_le _, Nat.zero_le _⟩ dX12_mends_7 (fun v2 Z3 I4 L5 q6 => ?_)
  obtain ⟨rfl, r7, rfl, zr7, h⟩ := q6
  show jJ G 3 10 [(0, .ref v0), (1, .int v1)] [.int r7] Z I4 L5 0 0
  refine j_if_ne E 15 dX12_mends_10 (by decide) (fun c8 => ?_) (fun c8 => ?_)
  · have h := h.1 c8
    refine j_bipush E (v := 9) dX12_mends_15 (by decide) ?_
    refine j_aload_n E dX12_mends_17 0 rfl ?_
    obtain ⟨b9, eb9, kb9, lb9⟩ := sh_f hZ kv0 (j := 2) (k := 14) (m := 24) rfl
    have h := h b9 eb9
    refine j_getr E 12 2 rfl rfl (by decide) (by decide) (iw iT_12) rfl rfl (tw W_726) kv0 eb9 dX12_mends_18 ?_
    refine j_iload_n E dX12_mends_21 1 rfl ?_
    obtain ⟨o10, h⟩ := h
    refine j_iald E kb9 (by rw [lb9]; exact o10) dX12_mends_22 ?_
    refine j_isub E dX12_mends_23 ?_
    refine j_aload_n E dX12_mends_24 0 rfl ?_
    obtain ⟨b11, eb11, kb11, lb11⟩ := sh_f hZ kv0 (j := 1) (k := 14) (m := 24) rfl
    have h := h b11 eb11
    refine j_getr E 12 1 rfl rfl (by decide) (by decide) (iw iT_12) rfl rfl (tw W_725) kv0 eb11 dX12_mends_25 ?_
    refine j_iload_n E dX12_mends_28 1 rfl ?_
    obtain ⟨o12, h⟩ := h
    refine j_iald E kb11 (by rw [lb11]; exact o12) dX12_mends_29 ?_
    refine j_imul E dX12_mends_30 ?_
    refine j_topi (fun x13 ex13 => ?_)
    have h := h x13 ex13
    refine j_istore_n E 2 [(2, .int x13), (0, .ref v0), (1, .int v1)] dX12_mends_31 rfl (by decide) rfl ?_
    refine j_aload_n E dX12_mends_32 1 rfl ?_
    refine j_iload_n E dX12_mends_33 2 rfl ?_
    refine j_iload_n E dX12_mends_34 0 rfl ?_
    refine j_iconst E (v := -1) dX12_mends_35 (by decide) ?_
    refine j_callV E [.int v1, .int x13, .int (-1 : Int32)] [] (c_X12_earn (gL G) (gD G) (gY G) v0 v1 x13 (-1 : Int32) Z I4 L5 _ hZ kv0 h) (gwV W_800 W_801 W_802 W_679 W_799) rfl ⟨rfl, fy_X12_earn⟩ ⟨by decide, by decide⟩ (c := 12) rfl (by decide) kv0 rfl rfl (Nat.le_of_ble_eq_true rfl) ⟨Nat.zero_le _, Nat.zero_le _⟩ dX12_mends_36 (fun v14 Z15 I16 L17 q18 => ?_)
    obtain ⟨rfl, rfl, h⟩ := q18
    show jJ G 3 39 [(2, .int x13), (0, .ref v0), (1, .int v1)] [] Z I16 L17 0 0
    refine j_aload_n E dX12_mends_39 1 rfl ?_
    obtain ⟨b19, eb19, kb19, lb19⟩ := sh_f hZ kv0 (j := 2) (k := 14) (m := 24) rfl
    have h := h b19 eb19
    refine j_getr E 12 2 rfl rfl (by decide) (by decide) (iw iT_12) rfl rfl (tw W_726) kv0 eb19 dX12_mends_40 ?_
    refine j_iload_n E dX12_mends_43 2 rfl ?_
    refine j_bipush E (v := 9) dX12_mends_44 (by decide) ?_
    obtain ⟨o20, h⟩ := h
    refine j_iast E kb19 (by rw [lb19]; exact o20) dX12_mends_46 ?_
    refine j_nmI (fun I21 eI21 => ?_)
    have h := h I21 eI21
    refine j_iload_n E dX12_mends_47 0 rfl ?_
    exact j_ireturn E ⟨rfl, _, rfl, h⟩ (Nat.zero_le _) (Nat.zero_le _) dX12_mends_48
  · have h := h.2 c8
    refine j_iconst E (v := -1) dX12_mends_13 (by decide) ?_
    exact j_ireturn E ⟨rfl, _, rfl, h⟩ (Nat.zero_le _) (Nat.zero_le _) dX12_mends_14
set_option maxRecDepth 100000 in
def f_X12_toll_L54  (Q : Int32 → jZ → jI → jL → Prop) : Nat → Nat → Int32 → Int32 → Int32 → Int32 → jZ → jI → jL → Prop
  | 0 => fun _ _ _ _ _ _ _ _ => False
  | n + 1 => fun v0 v1 v2 v3 v4 Z I L => (((I v0 48) = v3 → (∀ b2 : Nat, jr Z v0 3 = some b2 → (vp_in v1 24 ∧ (∀ I4 : jI, I4 = jpI I b2 v1.toNatClampNeg v2 → (∀ I5 : jI, I5 = jpI I4 v0 21 (0 : Int32) → (f_X12_tell v0 (v3.toInt64) Z I5 L (fun I8 L9 => Q v4 Z I8 L9))))))) ∧ (¬ ((I v0 48) = v3) → (∀ x11 : Int32, x11 = v4 + (-1) → (∀ b12 : Nat, jr Z v0 3 = some b12 → (vp_in v1 24 ∧ (∀ I14 : jI, I14 = jpI I b12 v1.toNatClampNeg x11 → (f_X12_findAll v0 Z I14 L (fun Z16 I17 L18 => (f_X12_toll_L54 Q n) v0 v1 v2 v3 x11 Z16 I17 L18))))))))
set_option maxHeartbeats 4000000 in
set_option maxRecDepth 100000 in
theorem m_X12_toll_L54 {G : jG} {Z0 : jZ} {Q : Int32 → jZ → jI → jL → Prop} (E : jE G cX12_toll RX12 w_X12_toll 5 (some .int) { frames := 6, cells := 0, slots := 0, locals := 145 } (xrtI Z0 Q))  : ∀ (n : Nat) (v0 : Nat) (v1 : Int32) (v2 : Int32) (v3 : Int32) (v4 : Int32) (Z : jZ) (I : jI) (L : jL), SH Z → jext Z0 Z → jk Z v0 12 → f_X12_toll_L54  Q n v0 v1 v2 v3 v4 Z I L → jJ G 5 54 [(0, .ref v0), (1, .int v1), (2, .int v2), (3, .int v3), (4, .int v4)] [] Z I L 0 0 := by
  intro n
  induction n with
  | zero => intro v0 v1 v2 v3 v4 Z I L _ _ _ h; exact h.elim
  | succ n ih =>
    intro v0 v1 v2 v3 v4 Z I L hZ hx kv0 h
    have h : (((I v0 48) = v3 → (∀ b2 : Nat, jr Z v0 3 = some b2 → (vp_in v1 24 ∧ (∀ I4 : jI, I4 = jpI I b2 v1.toNatClampNeg v2 → (∀ I5 : jI, I5 = jpI I4 v0 21 (0 : Int32) → (f_X12_tell v0 (v3.toInt64) Z I5 L (fun I8 L9 => Q v4 Z I8 L9))))))) ∧ (¬ ((I v0 48) = v3) → (∀ x11 : Int32, x11 = v4 + (-1) → (∀ b12 : Nat, jr Z v0 3 = some b12 → (vp_in v1 24 ∧ (∀ I14 : jI, I14 = jpI I b12 v1.toNatClampNeg x11 → (f_X12_findAll v0 Z I14 L (fun Z16 I17 L18 => (f_X12_toll_L54 Q n) v0 v1 v2 v3 x11 Z16 I17 L18)))))))) := h
    obtain ⟨K54, eK54⟩ : ∃ K : Nat → Int32 → Int32 → Int32 → Int32 → jZ → jI → jL → Prop, K = f_X12_toll_L54  Q n := ⟨_, rfl⟩
    have hK54 := ih
    clear eK54 K54
    generalize f_X12_toll_L54  Q n = K54 at hK54 h
    refine j_aload_n E dX12_toll_54 0 rfl ?_
    refine j_geti E 12 48 rfl rfl (by decide) (by decide) (iw iT_12) rfl rfl (tw W_853) kv0 dX12_toll_55 ?_
    refine j_iload_n E dX12_toll_58 3 rfl ?_
    refine j_icmp_eq E 80 dX12_toll_59 (by decide) (fun c1 => ?_) (fun c1 => ?_)
    · have h := h.1 c1
      refine j_aload_n E dX12_toll_80 0 rfl ?_
      obtain ⟨b2, eb2, kb2, lb2⟩ := sh_f hZ kv0 (j := 3) (k := 14) (m := 24) rfl
      have h := h b2 eb2
      refine j_getr E 12 3 rfl rfl (by decide) (by decide) (iw iT_12) rfl rfl (tw W_727) kv0 eb2 dX12_toll_81 ?_
      refine j_iload_n E dX12_toll_84 1 rfl ?_
      refine j_iload_n E dX12_toll_85 2 rfl ?_
      obtain ⟨o3, h⟩ := h
      refine j_iast E kb2 (by rw [lb2]; exact o3) dX12_toll_86 ?_
      refine j_nmI (fun I4 eI4 => ?_)
      have h := h I4 eI4
      refine j_aload_n E dX12_toll_87 0 rfl ?_
      refine j_iconst E (v := 0) dX12_toll_88 (by decide) ?_
      refine j_puti E 12 21 rfl rfl (by decide) (by decide) (iw iT_12) tyX12_ok nmX12 rfl rfl (tw W_676) rfl rfl rfl kv0 dX12_toll_89 ?_
      refine j_nmI (fun I5 eI5 => ?_)
      have h := h I5 eI5
      refine j_aload_n E dX12_toll_92 0 rfl ?_
      refine j_iload_n E dX12_toll_93 3 rfl ?_
      refine j_i2l E dX12_toll_94 ?_
      refine j_callV E [.long (v3.toInt64)] [] (c_X12_tell (gL G) (gD G) (gY G) v0 (v3.toInt64) Z I5 L _ hZ kv0 h) (gwV W_784 W_785 W_786 W_679 W_783) rfl ⟨rfl, fy_X12_tell⟩ ⟨by decide, by decide⟩ (c := 12) rfl (by decide) kv0 rfl rfl (Nat.le_of_ble_eq_true rfl) ⟨Nat.zero_le _, Nat.zero_le _⟩ dX12_toll_95 (fun v6 Z7 I8 L9 q10 => ?_)
      obtain ⟨rfl, rfl, h⟩ := q10
      show jJ G 5 98 [(0, .ref v0), (1, .int v1), (2, .int v2), (3, .int v3), (4, .int v4)] [] Z I8 L9 0 0
      refine j_iload E dX12_toll_98 4 rfl ?_
      exact j_ireturn E ⟨hx, hZ, _, rfl, h⟩ (Nat.zero_le _) (Nat.zero_le _) dX12_toll_100
    · have h := h.2 c1
      obtain ⟨x11, ex11⟩ : ∃ y : Int32, y = v4 + (-1) := ⟨_, rfl⟩
      have h := h x11 ex11
      refine j_iinc E x11 [(4, .int x11), (0, .ref v0), (1, .int v1), (2, .int v2), (3, .int v3)] dX12_toll_62 4 rfl (by rw [ex11]; rfl) (by decide) rfl ?_
      refine j_aload_n E dX12_toll_65 1 rfl ?_
      obtain ⟨b12, eb12, kb12, lb12⟩ := sh_f hZ kv0 (j := 3) (k := 14) (m := 24) rfl
      have h := h b12 eb12
      refine j_getr E 12 3 rfl rfl (by decide) (by decide) (iw iT_12) rfl rfl (tw W_727) kv0 eb12 dX12_toll_66 ?_
      refine j_iload_n E dX12_toll_69 2 rfl ?_
      refine j_iload E dX12_toll_70 0 rfl ?_
      obtain ⟨o13, h⟩ := h
      refine j_iast E kb12 (by rw [lb12]; exact o13) dX12_toll_72 ?_
      refine j_nmI (fun I14 eI14 => ?_)
      have h := h I14 eI14
      refine j_aload_n E dX12_toll_73 1 rfl ?_
      refine j_callV E [] [] (c_X12_findAll (gL G) (gD G) (gY G) v0 Z I14 L _ hZ kv0 h) (gwV W_857 W_858 W_859 W_679 W_856) rfl ⟨rfl, fy_X12_findAll⟩ ⟨by decide, by decide⟩ (c := 12) rfl (by decide) kv0 rfl rfl (Nat.le_of_ble_eq_true rfl) ⟨Nat.zero_le _, Nat.zero_le _⟩ dX12_toll_74 (fun v15 Z16 I17 L18 q19 => ?_)
      obtain ⟨yZ16, hZ16, rfl, h⟩ := q19
      have hZ := hZ16
      have hx : jext Z0 Z16 := jext_trans hx yZ16
      have k20 := (yZ16 _ _ kv0).1
      show jJ G 5 77 [(4, .int x11), (0, .ref v0), (1, .int v1), (2, .int v2), (3, .int v3)] [] Z16 I17 L18 0 0
      refine j_goto E 54 dX12_toll_77 (by decide) ?_
      refine j_sub [1, 2, 3, 4, 0] rfl ?_
      exact hK54 v0 v1 v2 v3 x11 Z16 I17 L18 hZ hx k20 h
set_option maxRecDepth 100000 in
def f_X12_toll (v0 : Nat) (v1 : Int32) (Z : jZ) (I : jI) (L : jL) (Q : Int32 → jZ → jI → jL → Prop) : Prop := (∀ I21 : jI, I21 = jpI I v0 22 (0 : Int32) → (f_X12_isStep v0 v1 Z I21 L (fun r27 I24 L25 => ((¬ r27 = 0 → (∀ b29 : Nat, jr Z v0 3 = some b29 → (vp_in v1 24 ∧ (∀ x31 : Int32, x31 = (I24 b29 v1.toNatClampNeg) → (∀ b32 : Nat, jr Z v0 3 = some b32 → (vp_in v1 24 ∧ (∀ I34 : jI, I34 = jpI I24 b32 v1.toNatClampNeg (0 : Int32) → (f_X12_findAll v0 Z I34 L25 (fun Z36 I37 L38 => (∀ x41 : Int32, x41 = (I37 v0 48) → (∀ b42 : Nat, jr Z36 v0 3 = some b42 → (vp_in v1 24 ∧ (∀ I44 : jI, I44 = jpI I37 b42 v1.toNatClampNeg (20 : Int32) → (f_X12_findAll v0 Z36 I44 L38 (fun Z46 I47 L48 => (∃ m54 : Nat, f_X12_toll_L54  Q m54 v0 v1 x31 x41 (20 : Int32) Z46 I47 L48)))))))))))))))) ∧ (r27 = 0 → Q (-1 : Int32) Z I24 L25)))))
set_option maxHeartbeats 4000000 in
set_option maxRecDepth 100000 in
theorem c_X12_toll (l : Launch) (D : va_G) (cy : jC) (v0 : Nat) (v1 : Int32) (Z : jZ) (I : jI) (L : jL) (Q : Int32 → jZ → jI → jL → Prop) (hZ : SH Z) (kv0 : jk Z v0 12) (h : f_X12_toll v0 v1 Z I L Q) : jCt l yX12_toll w_X12_toll { frames := 6, cells := 0, slots := 0, locals := 145 } D cy [.ref v0, .int v1] Z I L (xrtI Z Q) := by
  refine jCt_of (cc := cX12_toll) (maxL := 5) (ret := (some .int)) (by decide +kernel) rfl (Nat.le_of_ble_eq_true rfl) ?_
  intro G eD eY eL E
  subst eD; subst eY; subst eL
  have E : jE G cX12_toll RX12 w_X12_toll 5 (some .int) { frames := 6, cells := 0, slots := 0, locals := 145 } (xrtI Z Q) := E
  have hx : jext Z Z := jext_rfl
  show jJ G 5 0 [(0, .ref v0), (1, .int v1)] [] Z I L 0 0
  refine j_aload_n E dX12_toll_0 0 rfl ?_
  refine j_iconst E (v := 0) dX12_toll_1 (by decide) ?_
  refine j_puti E 12 22 rfl rfl (by decide) (by decide) (iw iT_12) tyX12_ok nmX12 rfl rfl (tw W_674) rfl rfl rfl kv0 dX12_toll_2 ?_
  refine j_nmI (fun I21 eI21 => ?_)
  have h := h I21 eI21
  refine j_aload_n E dX12_toll_5 0 rfl ?_
  refine j_iload_n E dX12_toll_6 1 rfl ?_
  refine j_callV E [.int v1] [] (c_X12_isStep (gL G) (gD G) (gY G) v0 v1 Z I21 L _ hZ kv0 h) (gwV W_752 W_753 W_754 W_679 W_751) rfl ⟨rfl, fy_X12_isStep⟩ ⟨by decide, by decide⟩ (c := 12) rfl (by decide) kv0 rfl rfl (Nat.le_of_ble_eq_true rfl) ⟨Nat.zero_le _, Nat.zero_le _⟩ dX12_toll_7 (fun v22 Z23 I24 L25 q26 => ?_)
  obtain ⟨rfl, r27, rfl, zr27, h⟩ := q26
  show jJ G 5 10 [(0, .ref v0), (1, .int v1)] [.int r27] Z I24 L25 0 0
  refine j_if_ne E 15 dX12_toll_10 (by decide) (fun c28 => ?_) (fun c28 => ?_)
  · have h := h.1 c28
    refine j_aload_n E dX12_toll_15 0 rfl ?_
    obtain ⟨b29, eb29, kb29, lb29⟩ := sh_f hZ kv0 (j := 3) (k := 14) (m := 24) rfl
    have h := h b29 eb29
    refine j_getr E 12 3 rfl rfl (by decide) (by decide) (iw iT_12) rfl rfl (tw W_727) kv0 eb29 dX12_toll_16 ?_
    refine j_iload_n E dX12_toll_19 1 rfl ?_
    obtain ⟨o30, h⟩ := h
    refine j_iald E kb29 (by rw [lb29]; exact o30) dX12_toll_20 ?_
    refine j_topi (fun x31 ex31 => ?_)
    have h := h x31 ex31
    refine j_istore_n E 2 [(2, .int x31), (0, .ref v0), (1, .int v1)] dX12_toll_21 rfl (by decide) rfl ?_
    refine j_aload_n E dX12_toll_22 1 rfl ?_
    obtain ⟨b32, eb32, kb32, lb32⟩ := sh_f hZ kv0 (j := 3) (k := 14) (m := 24) rfl
    have h := h b32 eb32
    refine j_getr E 12 3 rfl rfl (by decide) (by decide) (iw iT_12) rfl rfl (tw W_727) kv0 eb32 dX12_toll_23 ?_
    refine j_iload_n E dX12_toll_26 2 rfl ?_
    refine j_iconst E (v := 0) dX12_toll_27 (by decide) ?_
    obtain ⟨o33, h⟩ := h
    refine j_iast E kb32 (by rw [lb32]; exact o33) dX12_toll_28 ?_
    refine j_nmI (fun I34 eI34 => ?_)
    have h := h I34 eI34
    refine j_aload_n E dX12_toll_29 1 rfl ?_
    refine j_callV E [] [] (c_X12_findAll (gL G) (gD G) (gY G) v0 Z I34 L25 _ hZ kv0 h) (gwV W_857 W_858 W_859 W_679 W_856) rfl ⟨rfl, fy_X12_findAll⟩ ⟨by decide, by decide⟩ (c := 12) rfl (by decide) kv0 rfl rfl (Nat.le_of_ble_eq_true rfl) ⟨Nat.zero_le _, Nat.zero_le _⟩ dX12_toll_30 (fun v35 Z36 I37 L38 q39 => ?_)
    obtain ⟨yZ36, hZ36, rfl, h⟩ := q39
    have hZ := hZ36
    have hx : jext Z Z36 := jext_trans hx yZ36
    have k40 := (yZ36 _ _ kv0).1
    show jJ G 5 33 [(2, .int x31), (0, .ref v0), (1, .int v1)] [] Z36 I37 L38 0 0
    refine j_aload_n E dX12_toll_33 1 rfl ?_
    refine j_geti E 12 48 rfl rfl (by decide) (by decide) (iw iT_12) rfl rfl (tw W_853) k40 dX12_toll_34 ?_
    refine j_topi (fun x41 ex41 => ?_)
    have h := h x41 ex41
    refine j_istore_n E 3 [(3, .int x41), (2, .int x31), (0, .ref v0), (1, .int v1)] dX12_toll_37 rfl (by decide) rfl ?_
    refine j_bipush E (v := 20) dX12_toll_38 (by decide) ?_
    refine j_istore E 4 [(4, .int (20 : Int32)), (3, .int x41), (2, .int x31), (0, .ref v0), (1, .int v1)] dX12_toll_40 (by decide) rfl ?_
    refine j_aload_n E dX12_toll_42 3 rfl ?_
    obtain ⟨b42, eb42, kb42, lb42⟩ := sh_f hZ k40 (j := 3) (k := 14) (m := 24) rfl
    have h := h b42 eb42
    refine j_getr E 12 3 rfl rfl (by decide) (by decide) (iw iT_12) rfl rfl (tw W_727) k40 eb42 dX12_toll_43 ?_
    refine j_iload_n E dX12_toll_46 4 rfl ?_
    refine j_iload E dX12_toll_47 0 rfl ?_
    obtain ⟨o43, h⟩ := h
    refine j_iast E kb42 (by rw [lb42]; exact o43) dX12_toll_49 ?_
    refine j_nmI (fun I44 eI44 => ?_)
    have h := h I44 eI44
    refine j_aload_n E dX12_toll_50 3 rfl ?_
    refine j_callV E [] [] (c_X12_findAll (gL G) (gD G) (gY G) v0 Z36 I44 L38 _ hZ k40 h) (gwV W_857 W_858 W_859 W_679 W_856) rfl ⟨rfl, fy_X12_findAll⟩ ⟨by decide, by decide⟩ (c := 12) rfl (by decide) k40 rfl rfl (Nat.le_of_ble_eq_true rfl) ⟨Nat.zero_le _, Nat.zero_le _⟩ dX12_toll_51 (fun v45 Z46 I47 L48 q49 => ?_)
    obtain ⟨yZ46, hZ46, rfl, h⟩ := q49
    have hZ := hZ46
    have hx : jext Z Z46 := jext_trans hx yZ46
    have k50 := (yZ46 _ _ k40).1
    show jJ G 5 54 [(4, .int (20 : Int32)), (3, .int x41), (2, .int x31), (0, .ref v0), (1, .int v1)] [] Z46 I47 L48 0 0
    obtain ⟨n51, h⟩ := h
    refine j_sub [3, 4, 2, 1, 0] rfl ?_
    exact m_X12_toll_L54 E  n51 v0 v1 x31 x41 (20 : Int32) Z46 I47 L48 hZ hx k50 h
  · have h := h.2 c28
    refine j_iconst E (v := -1) dX12_toll_13 (by decide) ?_
    exact j_ireturn E ⟨hx, hZ, _, rfl, h⟩ (Nat.zero_le _) (Nat.zero_le _) dX12_toll_14
set_option maxRecDepth 100000 in
def f_X12_peace_b129 (K25 : Nat → Int32 → Int32 → Int32 → Int32 → Int32 → jZ → jI → jL → Prop) (K38 : Nat → Int32 → Int32 → Int32 → Int32 → Int32 → Int32 → jZ → jI → jL → Prop) (Q : Int32 → jZ → jI → jL → Prop) (v0 : Nat) (v1 : Int32) (v2 : Int32) (v3 : Int32) (v4 : Int32) (v5 : Int32) (v6 : Int32) (Z : jZ) (I : jI) (L : jL) : Prop := (∀ x1 : Int32, x1 = v6 + 1 → K38 v0 v1 v2 v3 v4 v5 x1 Z I L)
set_option maxHeartbeats 4000000 in
set_option maxRecDepth 100000 in
theorem m_X12_peace_b129 {G : jG} {Z0 : jZ} {Q : Int32 → jZ → jI → jL → Prop} (E : jE G cX12_peace RX12 w_X12_peace 7 (some .int) { frames := 6, cells := 0, slots := 0, locals := 145 } (xrtI Z0 Q)) (K25 : Nat → Int32 → Int32 → Int32 → Int32 → Int32 → jZ → jI → jL → Prop) (hK25 : ∀ (v0 : Nat) (v1 : Int32) (v2 : Int32) (v3 : Int32) (v4 : Int32) (v5 : Int32) (Z : jZ) (I : jI) (L : jL), SH Z → jext Z0 Z → jk Z v0 12 → K25 v0 v1 v2 v3 v4 v5 Z I L → jJ G 7 25 [(0, .ref v0), (1, .int v1), (2, .int v2), (3, .int v3), (4, .int v4), (5, .int v5)] [] Z I L 0 0) (K38 : Nat → Int32 → Int32 → Int32 → Int32 → Int32 → Int32 → jZ → jI → jL → Prop) (hK38 : ∀ (v0 : Nat) (v1 : Int32) (v2 : Int32) (v3 : Int32) (v4 : Int32) (v5 : Int32) (v6 : Int32) (Z : jZ) (I : jI) (L : jL), SH Z → jext Z0 Z → jk Z v0 12 → K38 v0 v1 v2 v3 v4 v5 v6 Z I L → jJ G 7 38 [(0, .ref v0), (1, .int v1), (2, .int v2), (3, .int v3), (4, .int v4), (5, .int v5), (6, .int v6)] [] Z I L 0 0) (v0 : Nat) (v1 : Int32) (v2 : Int32) (v3 : Int32) (v4 : Int32) (v5 : Int32) (v6 : Int32) (Z : jZ) (I : jI) (L : jL) (hZ : SH Z) (hx : jext Z0 Z) (kv0 : jk Z v0 12) (h : f_X12_peace_b129 K25 K38 Q v0 v1 v2 v3 v4 v5 v6 Z I L) : jJ G 7 129 [(0, .ref v0), (1, .int v1), (2, .int v2), (3, .int v3), (4, .int v4), (5, .int v5), (6, .int v6)] [] Z I L 0 0 := by
  obtain ⟨x1, ex1⟩ : ∃ y : Int32, y = v6 + 1 := ⟨_, rfl⟩
  have h := h x1 ex1
  refine j_iinc E x1 [(6, .int x1), (0, .ref v0), (1, .int v1), (2, .int v2), (3, .int v3), (4, .int v4), (5, .int v5)] dX12_peace_129 6 rfl (by rw [ex1]; rfl) (by decide) rfl ?_
  refine j_goto E 38 dX12_peace_132 (by decide) ?_
  refine j_sub [1, 2, 3, 4, 5, 6, 0] rfl ?_
  exact hK38 v0 v1 v2 v3 v4 v5 x1 Z I L hZ hx kv0 h
set_option maxRecDepth 100000 in
def f_X12_peace_b109 (K25 : Nat → Int32 → Int32 → Int32 → Int32 → Int32 → jZ → jI → jL → Prop) (K38 : Nat → Int32 → Int32 → Int32 → Int32 → Int32 → Int32 → jZ → jI → jL → Prop) (Q : Int32 → jZ → jI → jL → Prop) (v0 : Nat) (v1 : Int32) (v5 : Int32) (v6 : Int32) (Z : jZ) (I : jI) (L : jL) : Prop := (∀ x2 : Int32, x2 = (((10 : Int32) * v5) + v6) → (∀ x3 : Int32, x3 = (I v0 49) → (∀ x4 : Int32, x4 = (I v0 48) → f_X12_peace_b129 K25 K38 Q v0 v1 x2 x3 x4 v5 v6 Z I L)))
set_option maxHeartbeats 4000000 in
set_option maxRecDepth 100000 in
theorem m_X12_peace_b109 {G : jG} {Z0 : jZ} {Q : Int32 → jZ → jI → jL → Prop} (E : jE G cX12_peace RX12 w_X12_peace 7 (some .int) { frames := 6, cells := 0, slots := 0, locals := 145 } (xrtI Z0 Q)) (K25 : Nat → Int32 → Int32 → Int32 → Int32 → Int32 → jZ → jI → jL → Prop) (hK25 : ∀ (v0 : Nat) (v1 : Int32) (v2 : Int32) (v3 : Int32) (v4 : Int32) (v5 : Int32) (Z : jZ) (I : jI) (L : jL), SH Z → jext Z0 Z → jk Z v0 12 → K25 v0 v1 v2 v3 v4 v5 Z I L → jJ G 7 25 [(0, .ref v0), (1, .int v1), (2, .int v2), (3, .int v3), (4, .int v4), (5, .int v5)] [] Z I L 0 0) (K38 : Nat → Int32 → Int32 → Int32 → Int32 → Int32 → Int32 → jZ → jI → jL → Prop) (hK38 : ∀ (v0 : Nat) (v1 : Int32) (v2 : Int32) (v3 : Int32) (v4 : Int32) (v5 : Int32) (v6 : Int32) (Z : jZ) (I : jI) (L : jL), SH Z → jext Z0 Z → jk Z v0 12 → K38 v0 v1 v2 v3 v4 v5 v6 Z I L → jJ G 7 38 [(0, .ref v0), (1, .int v1), (2, .int v2), (3, .int v3), (4, .int v4), (5, .int v5), (6, .int v6)] [] Z I L 0 0) (v0 : Nat) (v1 : Int32) (v5 : Int32) (v6 : Int32) (Z : jZ) (I : jI) (L : jL) (hZ : SH Z) (hx : jext Z0 Z) (kv0 : jk Z v0 12) (h : f_X12_peace_b109 K25 K38 Q v0 v1 v5 v6 Z I L) : jJ G 7 109 [(0, .ref v0), (1, .int v1), (5, .int v5), (6, .int v6)] [] Z I L 0 0 := by
  refine j_bipush E (v := 10) dX12_peace_109 (by decide) ?_
  refine j_iload E dX12_peace_111 2 rfl ?_
  refine j_imul E dX12_peace_113 ?_
  refine j_iload E dX12_peace_114 3 rfl ?_
  refine j_iadd E dX12_peace_116 ?_
  refine j_topi (fun x2 ex2 => ?_)
  have h := h x2 ex2
  refine j_istore_n E 2 [(2, .int x2), (0, .ref v0), (1, .int v1), (5, .int v5), (6, .int v6)] dX12_peace_117 rfl (by decide) rfl ?_
  refine j_aload_n E dX12_peace_118 1 rfl ?_
  refine j_geti E 12 49 rfl rfl (by decide) (by decide) (iw iT_12) rfl rfl (tw W_854) kv0 dX12_peace_119 ?_
  refine j_topi (fun x3 ex3 => ?_)
  have h := h x3 ex3
  refine j_istore_n E 3 [(3, .int x3), (2, .int x2), (0, .ref v0), (1, .int v1), (5, .int v5), (6, .int v6)] dX12_peace_122 rfl (by decide) rfl ?_
  refine j_aload_n E dX12_peace_123 2 rfl ?_
  refine j_geti E 12 48 rfl rfl (by decide) (by decide) (iw iT_12) rfl rfl (tw W_853) kv0 dX12_peace_124 ?_
  refine j_topi (fun x4 ex4 => ?_)
  have h := h x4 ex4
  refine j_istore E 4 [(4, .int x4), (3, .int x3), (2, .int x2), (0, .ref v0), (1, .int v1), (5, .int v5), (6, .int v6)] dX12_peace_127 (by decide) rfl ?_
  refine j_sub [3, 4, 2, 1, 0, 5, 6] rfl ?_
  exact m_X12_peace_b129 E K25 hK25 K38 hK38 v0 v1 x2 x3 x4 v5 v6 Z I L hZ hx kv0 h
set_option maxRecDepth 100000 in
def f_X12_peace_L38 (K25 : Nat → Int32 → Int32 → Int32 → Int32 → Int32 → jZ → jI → jL → Prop) (Q : Int32 → jZ → jI → jL → Prop) : Nat → Nat → Int32 → Int32 → Int32 → Int32 → Int32 → Int32 → jZ → jI → jL → Prop
  | 0 => fun _ _ _ _ _ _ _ _ _ _ => False
  | n + 1 => fun v0 v1 v2 v3 v4 v5 v6 Z I L => (((8 : Int32) ≤ v6 → (∀ x6 : Int32, x6 = v5 + 1 → K25 v0 v1 v2 v3 v4 x6 Z I L)) ∧ (¬ ((8 : Int32) ≤ v6) → (∀ b7 : Nat, jr Z v0 6 = some b7 → (vp_in (((8 : Int32) * v5) + v6) 64 ∧ ((¬ (I b7 (((8 : Int32) * v5) + v6).toNatClampNeg) = 0 → (f_X12_setFeud v0 v5 v6 (0 : Int32) Z I L (fun I12 L13 => (f_X12_findAll v0 Z I12 L13 (fun Z16 I17 L18 => (f_X12_setFeud v0 v5 v6 (1 : Int32) Z16 I17 L18 (fun I23 L24 => (((I23 v0 48) < v1 → f_X12_peace_b129 K25 (f_X12_peace_L38 K25 Q n) Q v0 v1 v2 v3 v4 v5 v6 Z16 I23 L24) ∧ (¬ ((I23 v0 48) < v1) → ((v2 < 0 → f_X12_peace_b109 K25 (f_X12_peace_L38 K25 Q n) Q v0 v1 v5 v6 Z16 I23 L24) ∧ (¬ (v2 < 0) → (((I23 v0 49) < v3 → f_X12_peace_b109 K25 (f_X12_peace_L38 K25 Q n) Q v0 v1 v5 v6 Z16 I23 L24) ∧ (¬ ((I23 v0 49) < v3) → f_X12_peace_b129 K25 (f_X12_peace_L38 K25 Q n) Q v0 v1 v2 v3 v4 v5 v6 Z16 I23 L24))))))))))))) ∧ ((I b7 (((8 : Int32) * v5) + v6).toNatClampNeg) = 0 → f_X12_peace_b129 K25 (f_X12_peace_L38 K25 Q n) Q v0 v1 v2 v3 v4 v5 v6 Z I L))))))
set_option maxHeartbeats 4000000 in
set_option maxRecDepth 100000 in
theorem m_X12_peace_L38 {G : jG} {Z0 : jZ} {Q : Int32 → jZ → jI → jL → Prop} (E : jE G cX12_peace RX12 w_X12_peace 7 (some .int) { frames := 6, cells := 0, slots := 0, locals := 145 } (xrtI Z0 Q)) (K25 : Nat → Int32 → Int32 → Int32 → Int32 → Int32 → jZ → jI → jL → Prop) (hK25 : ∀ (v0 : Nat) (v1 : Int32) (v2 : Int32) (v3 : Int32) (v4 : Int32) (v5 : Int32) (Z : jZ) (I : jI) (L : jL), SH Z → jext Z0 Z → jk Z v0 12 → K25 v0 v1 v2 v3 v4 v5 Z I L → jJ G 7 25 [(0, .ref v0), (1, .int v1), (2, .int v2), (3, .int v3), (4, .int v4), (5, .int v5)] [] Z I L 0 0) : ∀ (n : Nat) (v0 : Nat) (v1 : Int32) (v2 : Int32) (v3 : Int32) (v4 : Int32) (v5 : Int32) (v6 : Int32) (Z : jZ) (I : jI) (L : jL), SH Z → jext Z0 Z → jk Z v0 12 → f_X12_peace_L38 K25 Q n v0 v1 v2 v3 v4 v5 v6 Z I L → jJ G 7 38 [(0, .ref v0), (1, .int v1), (2, .int v2), (3, .int v3), (4, .int v4), (5, .int v5), (6, .int v6)] [] Z I L 0 0 := by
  intro n
  induction n with
  | zero => intro v0 v1 v2 v3 v4 v5 v6 Z I L _ _ _ h; exact h.elim
  | succ n ih =>
    intro v0 v1 v2 v3 v4 v5 v6 Z I L hZ hx kv0 h
    have h : (((8 : Int32) ≤ v6 → (∀ x6 : Int32, x6 = v5 + 1 → K25 v0 v1 v2 v3 v4 x6 Z I L)) ∧ (¬ ((8 : Int32) ≤ v6) → (∀ b7 : Nat, jr Z v0 6 = some b7 → (vp_in (((8 : Int32) * v5) + v6) 64 ∧ ((¬ (I b7 (((8 : Int32) * v5) + v6).toNatClampNeg) = 0 → (f_X12_setFeud v0 v5 v6 (0 : Int32) Z I L (fun I12 L13 => (f_X12_findAll v0 Z I12 L13 (fun Z16 I17 L18 => (f_X12_setFeud v0 v5 v6 (1 : Int32) Z16 I17 L18 (fun I23 L24 => (((I23 v0 48) < v1 → f_X12_peace_b129 K25 (f_X12_peace_L38 K25 Q n) Q v0 v1 v2 v3 v4 v5 v6 Z16 I23 L24) ∧ (¬ ((I23 v0 48) < v1) → ((v2 < 0 → f_X12_peace_b109 K25 (f_X12_peace_L38 K25 Q n) Q v0 v1 v5 v6 Z16 I23 L24) ∧ (¬ (v2 < 0) → (((I23 v0 49) < v3 → f_X12_peace_b109 K25 (f_X12_peace_L38 K25 Q n) Q v0 v1 v5 v6 Z16 I23 L24) ∧ (¬ ((I23 v0 49) < v3) → f_X12_peace_b129 K25 (f_X12_peace_L38 K25 Q n) Q v0 v1 v2 v3 v4 v5 v6 Z16 I23 L24))))))))))))) ∧ ((I b7 (((8 : Int32) * v5) + v6).toNatClampNeg) = 0 → f_X12_peace_b129 K25 (f_X12_peace_L38 K25 Q n) Q v0 v1 v2 v3 v4 v5 v6 Z I L)))))) := h
    obtain ⟨K38, eK38⟩ : ∃ K : Nat → Int32 → Int32 → Int32 → Int32 → Int32 → Int32 → jZ → jI → jL → Prop, K = f_X12_peace_L38 K25 Q n := ⟨_, rfl⟩
    have hK38 := ih
    clear eK38 K38
    generalize f_X12_peace_L38 K25 Q n = K38 at hK38 h
    refine j_iload E dX12_peace_38 6 rfl ?_
    refine j_bipush E (v := 8) dX12_peace_40 (by decide) ?_
    refine j_icmp_ge E 135 dX12_peace_42 (by decide) (fun c5 => ?_) (fun c5 => ?_)
    · have h := h.1 c5
      obtain ⟨x6, ex6⟩ : ∃ y : Int32, y = v5 + 1 := ⟨_, rfl⟩
      have h := h x6 ex6
      refine j_iinc E x6 [(5, .int x6), (0, .ref v0), (1, .int v1), (2, .int v2), (3, .int v3), (4, .int v4), (6, .int v6)] dX12_peace_135 5 rfl (by rw [ex6]; rfl) (by decide) rfl ?_
      refine j_goto E 25 dX12_peace_138 (by decide) ?_
      refine j_sub [1, 2, 3, 4, 5, 0] rfl ?_
      exact hK25 v0 v1 v2 v3 v4 x6 Z I L hZ hx kv0 h
    · have h := h.2 c5
      refine j_aload_n E dX12_peace_45 0 rfl ?_
      obtain ⟨b7, eb7, kb7, lb7⟩ := sh_f hZ kv0 (j := 6) (k := 16) (m := 64) rfl
      have h := h b7 eb7
      refine j_getr E 12 6 rfl rfl (by decide) (by decide) (iw iT_12) rfl rfl (tw W_739) kv0 eb7 dX12_peace_46 ?_
      refine j_bipush E (v := 8) dX12_peace_49 (by decide) ?_
      refine j_iload E dX12_peace_51 5 rfl ?_
      refine j_imul E dX12_peace_53 ?_
      refine j_iload E dX12_peace_54 6 rfl ?_
      refine j_iadd E dX12_peace_56 ?_
      obtain ⟨o8, h⟩ := h
      refine j_zald E kb7 (by rw [lb7]; exact o8) dX12_peace_57 ?_
      refine j_if_ne E 64 dX12_peace_58 (by decide) (fun c9 => ?_) (fun c9 => ?_)
      · have h := h.1 c9
        refine j_aload_n E dX12_peace_64 0 rfl ?_
        refine j_iload E dX12_peace_65 5 rfl ?_
        refine j_iload E dX12_peace_67 6 rfl ?_
        refine j_iconst E (v := 0) dX12_peace_69 (by decide) ?_
        refine j_callV E [.int v5, .int v6, .int (0 : Int32)] [] (c_X12_setFeud (gL G) (gD G) (gY G) v0 v5 v6 (0 : Int32) Z I L _ hZ kv0 h) (gwV W_761 W_762 W_763 W_679 W_760) rfl ⟨rfl, fy_X12_setFeud⟩ ⟨by decide, by decide⟩ (c := 12) rfl (by decide) kv0 rfl rfl (Nat.le_of_ble_eq_true rfl) ⟨Nat.zero_le _, Nat.zero_le _⟩ dX12_peace_70 (fun v10 Z11 I12 L13 q14 => ?_)
        obtain ⟨rfl, rfl, h⟩ := q14
        show jJ G 7 73 [(0, .ref v0), (1, .int v1), (2, .int v2), (3, .int v3), (4, .int v4), (5, .int v5), (6, .int v6)] [] Z I12 L13 0 0
        refine j_aload_n E dX12_peace_73 0 rfl ?_
        refine j_callV E [] [] (c_X12_findAll (gL G) (gD G) (gY G) v0 Z I12 L13 _ hZ kv0 h) (gwV W_857 W_858 W_859 W_679 W_856) rfl ⟨rfl, fy_X12_findAll⟩ ⟨by decide, by decide⟩ (c := 12) rfl (by decide) kv0 rfl rfl (Nat.le_of_ble_eq_true rfl) ⟨Nat.zero_le _, Nat.zero_le _⟩ dX12_peace_74 (fun v15 Z16 I17 L18 q19 => ?_)
        obtain ⟨yZ16, hZ16, rfl, h⟩ := q19
        have hZ := hZ16
        have hx : jext Z0 Z16 := jext_trans hx yZ16
        have k20 := (yZ16 _ _ kv0).1
        show jJ G 7 77 [(0, .ref v0), (1, .int v1), (2, .int v2), (3, .int v3), (4, .int v4), (5, .int v5), (6, .int v6)] [] Z16 I17 L18 0 0
        refine j_aload_n E dX12_peace_77 0 rfl ?_
        refine j_iload E dX12_peace_78 5 rfl ?_
        refine j_iload E dX12_peace_80 6 rfl ?_
        refine j_iconst E (v := 1) dX12_peace_82 (by decide) ?_
        refine j_callV E [.int v5, .int v6, .int (1 : Int32)] [] (c_X12_setFeud (gL G) (gD G) (gY G) v0 v5 v6 (1 : Int32) Z16 I17 L18 _ hZ k20 h) (gwV W_761 W_762 W_763 W_679 W_760) rfl ⟨rfl, fy_X12_setFeud⟩ ⟨by decide, by decide⟩ (c := 12) rfl (by decide) k20 rfl rfl (Nat.le_of_ble_eq_true rfl) ⟨Nat.zero_le _, Nat.zero_le _⟩ dX12_peace_83 (fun v21 Z22 I23 L24 q25 => ?_)
        obtain ⟨rfl, rfl, h⟩ := q25
        show jJ G 7 86 [(0, .ref v0), (1, .int v1), (2, .int v2), (3, .int v3), (4, .int v4), (5, .int v5), (6, .int v6)] [] Z16 I23 L24 0 0
        refine j_aload_n E dX12_peace_86 0 rfl ?_
        refine j_geti E 12 48 rfl rfl (by decide) (by decide) (iw iT_12) rfl rfl (tw W_853) k20 dX12_peace_87 ?_
        refine j_iload_n E dX12_peace_90 1 rfl ?_
        refine j_icmp_lt E 129 dX12_peace_91 (by decide) (fun c26 => ?_) (fun c26 => ?_)
        · have h := h.1 c26
          refine j_sub [0, 1, 2, 3, 4, 5, 6] rfl ?_
          exact m_X12_peace_b129 E K25 hK25 K38 hK38 v0 v1 v2 v3 v4 v5 v6 Z16 I23 L24 hZ hx k20 h
        · have h := h.2 c26
          refine j_iload_n E dX12_peace_94 2 rfl ?_
          refine j_if_lt E 109 dX12_peace_95 (by decide) (fun c27 => ?_) (fun c27 => ?_)
          · have h := h.1 c27
            refine j_sub [0, 1, 5, 6] rfl ?_
            exact m_X12_peace_b109 E K25 hK25 K38 hK38 v0 v1 v5 v6 Z16 I23 L24 hZ hx k20 h
          · have h := h.2 c27
            refine j_aload_n E dX12_peace_98 0 rfl ?_
            refine j_geti E 12 49 rfl rfl (by decide) (by decide) (iw iT_12) rfl rfl (tw W_854) k20 dX12_peace_99 ?_
            refine j_iload_n E dX12_peace_102 3 rfl ?_
            refine j_icmp_lt E 109 dX12_peace_103 (by decide) (fun c28 => ?_) (fun c28 => ?_)
            · have h := h.1 c28
              refine j_sub [0, 1, 5, 6] rfl ?_
              exact m_X12_peace_b109 E K25 hK25 K38 hK38 v0 v1 v5 v6 Z16 I23 L24 hZ hx k20 h
            · have h := h.2 c28
              refine j_goto E 129 dX12_peace_106 (by decide) ?_
              refine j_sub [0, 1, 2, 3, 4, 5, 6] rfl ?_
              exact m_X12_peace_b129 E K25 hK25 K38 hK38 v0 v1 v2 v3 v4 v5 v6 Z16 I23 L24 hZ hx k20 h
      · have h := h.2 c9
        refine j_goto E 129 dX12_peace_61 (by decide) ?_
        refine j_sub [0, 1, 2, 3, 4, 5, 6] rfl ?_
        exact m_X12_peace_b129 E K25 hK25 K38 hK38 v0 v1 v2 v3 v4 v5 v6 Z I L hZ hx kv0 h
set_option maxRecDepth 100000 in
def f_X12_peace_L25  (Q : Int32 → jZ → jI → jL → Prop) : Nat → Nat → Int32 → Int32 → Int32 → Int32 → Int32 → jZ → jI → jL → Prop
  | 0 => fun _ _ _ _ _ _ _ _ _ => False
  | n + 1 => fun v0 v1 v2 v3 v4 v5 Z I L => (((8 : Int32) ≤ v5 → ((0 ≤ v2 → (∀ I31 : jI, I31 = jpI I v0 21 (0 : Int32) → (f_X12_tell v0 (v3.toInt64) Z I31 L (fun I34 L35 => (f_X12_tell v0 (v4.toInt64) Z I34 L35 (fun I39 L40 => Q v2 Z I39 L40)))))) ∧ (¬ (0 ≤ v2) → Q (-2 : Int32) Z I L))) ∧ (¬ ((8 : Int32) ≤ v5) → (∀ x42 : Int32, x42 = (v5 + (1 : Int32)) → (∃ m38 : Nat, f_X12_peace_L38 (f_X12_peace_L25 Q n) Q m38 v0 v1 v2 v3 v4 v5 x42 Z I L))))
set_option maxHeartbeats 4000000 in
set_option maxRecDepth 100000 in
theorem m_X12_peace_L25 {G : jG} {Z0 : jZ} {Q : Int32 → jZ → jI → jL → Prop} (E : jE G cX12_peace RX12 w_X12_peace 7 (some .int) { frames := 6, cells := 0, slots := 0, locals := 145 } (xrtI Z0 Q))  : ∀ (n : Nat) (v0 : Nat) (v1 : Int32) (v2 : Int32) (v3 : Int32) (v4 : Int32) (v5 : Int32) (Z : jZ) (I : jI) (L : jL), SH Z → jext Z0 Z → jk Z v0 12 → f_X12_peace_L25  Q n v0 v1 v2 v3 v4 v5 Z I L → jJ G 7 25 [(0, .ref v0), (1, .int v1), (2, .int v2), (3, .int v3), (4, .int v4), (5, .int v5)] [] Z I L 0 0 := by
  intro n
  induction n with
  | zero => intro v0 v1 v2 v3 v4 v5 Z I L _ _ _ h; exact h.elim
  | succ n ih =>
    intro v0 v1 v2 v3 v4 v5 Z I L hZ hx kv0 h
    have h : (((8 : Int32) ≤ v5 → ((0 ≤ v2 → (∀ I31 : jI, I31 = jpI I v0 21 (0 : Int32) → (f_X12_tell v0 (v3.toInt64) Z I31 L (fun I34 L35 => (f_X12_tell v0 (v4.toInt64) Z I34 L35 (fun I39 L40 => Q v2 Z I39 L40)))))) ∧ (¬ (0 ≤ v2) → Q (-2 : Int32) Z I L))) ∧ (¬ ((8 : Int32) ≤ v5) → (∀ x42 : Int32, x42 = (v5 + (1 : Int32)) → (∃ m38 : Nat, f_X12_peace_L38 (f_X12_peace_L25 Q n) Q m38 v0 v1 v2 v3 v4 v5 x42 Z I L)))) := h
    obtain ⟨K25, eK25⟩ : ∃ K : Nat → Int32 → Int32 → Int32 → Int32 → Int32 → jZ → jI → jL → Prop, K = f_X12_peace_L25  Q n := ⟨_, rfl⟩
    have hK25 := ih
    clear eK25 K25
    generalize f_X12_peace_L25  Q n = K25 at hK25 h
    refine j_iload E dX12_peace_25 5 rfl ?_
    refine j_bipush E (v := 8) dX12_peace_27 (by decide) ?_
    refine j_icmp_ge E 141 dX12_peace_29 (by decide) (fun c29 => ?_) (fun c29 => ?_)
    · have h := h.1 c29
      refine j_iload_n E dX12_peace_141 2 rfl ?_
      refine j_if_ge E 148 dX12_peace_142 (by decide) (fun c30 => ?_) (fun c30 => ?_)
      · have h := h.1 c30
        refine j_aload_n E dX12_peace_148 0 rfl ?_
        refine j_iconst E (v := 0) dX12_peace_149 (by decide) ?_
        refine j_puti E 12 21 rfl rfl (by decide) (by decide) (iw iT_12) tyX12_ok nmX12 rfl rfl (tw W_676) rfl rfl rfl kv0 dX12_peace_150 ?_
        refine j_nmI (fun I31 eI31 => ?_)
        have h := h I31 eI31
        refine j_aload_n E dX12_peace_153 0 rfl ?_
        refine j_iload_n E dX12_peace_154 3 rfl ?_
        refine j_i2l E dX12_peace_155 ?_
        refine j_callV E [.long (v3.toInt64)] [] (c_X12_tell (gL G) (gD G) (gY G) v0 (v3.toInt64) Z I31 L _ hZ kv0 h) (gwV W_784 W_785 W_786 W_679 W_783) rfl ⟨rfl, fy_X12_tell⟩ ⟨by decide, by decide⟩ (c := 12) rfl (by decide) kv0 rfl rfl (Nat.le_of_ble_eq_true rfl) ⟨Nat.zero_le _, Nat.zero_le _⟩ dX12_peace_156 (fun v32 Z33 I34 L35 q36 => ?_)
        obtain ⟨rfl, rfl, h⟩ := q36
        show jJ G 7 159 [(0, .ref v0), (1, .int v1), (2, .int v2), (3, .int v3), (4, .int v4), (5, .int v5)] [] Z I34 L35 0 0
        refine j_aload_n E dX12_peace_159 0 rfl ?_
        refine j_iload E dX12_peace_160 4 rfl ?_
        refine j_i2l E dX12_peace_162 ?_
        refine j_callV E [.long (v4.toInt64)] [] (c_X12_tell (gL G) (gD G) (gY G) v0 (v4.toInt64) Z I34 L35 _ hZ kv0 h) (gwV W_784 W_785 W_786 W_679 W_783) rfl ⟨rfl, fy_X12_tell⟩ ⟨by decide, by decide⟩ (c := 12) rfl (by decide) kv0 rfl rfl (Nat.le_of_ble_eq_true rfl) ⟨Nat.zero_le _, Nat.zero_le _⟩ dX12_peace_163 (fun v37 Z38 I39 L40 q41 => ?_)
        obtain ⟨rfl, rfl, h⟩ := q41
        show jJ G 7 166 [(0, .ref v0), (1, .int v1), (2, .int v2), (3, .int v3), (4, .int v4), (5, .int v5)] [] Z I39 L40 0 0
        refine j_iload_n E dX12_peace_166 2 rfl ?_
        exact j_ireturn E ⟨hx, hZ, _, rfl, h⟩ (Nat.zero_le _) (Nat.zero_le _) dX12_peace_167
      · have h := h.2 c30
        refine j_bipush E (v := -2) dX12_peace_145 (by decide) ?_
        exact j_ireturn E ⟨hx, hZ, _, rfl, h⟩ (Nat.zero_le _) (Nat.zero_le _) dX12_peace_147
    · have h := h.2 c29
      refine j_iload E dX12_peace_32 5 rfl ?_
      refine j_iconst E (v := 1) dX12_peace_34 (by decide) ?_
      refine j_iadd E dX12_peace_35 ?_
      refine j_topi (fun x42 ex42 => ?_)
      have h := h x42 ex42
      refine j_istore E 6 [(6, .int x42), (0, .ref v0), (1, .int v1), (2, .int v2), (3, .int v3), (4, .int v4), (5, .int v5)] dX12_peace_36 (by decide) rfl ?_
      obtain ⟨n43, h⟩ := h
      refine j_sub [1, 2, 3, 4, 5, 6, 0] rfl ?_
      exact m_X12_peace_L38 E K25 hK25 n43 v0 v1 v2 v3 v4 v5 x42 Z I L hZ hx kv0 h
set_option maxRecDepth 100000 in
def f_X12_peace (v0 : Nat) (Z : jZ) (I : jI) (L : jL) (Q : Int32 → jZ → jI → jL → Prop) : Prop := (∀ I44 : jI, I44 = jpI I v0 22 (0 : Int32) → (f_X12_findAll v0 Z I44 L (fun Z46 I47 L48 => (∀ x51 : Int32, x51 = (I47 v0 48) → (∃ m25 : Nat, f_X12_peace_L25  Q m25 v0 x51 (-2 : Int32) (0 : Int32) (0 : Int32) (0 : Int32) Z46 I47 L48)))))
set_option maxHeartbeats 4000000 in
set_option maxRecDepth 100000 in
theorem c_X12_peace (l : Launch) (D : va_G) (cy : jC) (v0 : Nat) (Z : jZ) (I : jI) (L : jL) (Q : Int32 → jZ → jI → jL → Prop) (hZ : SH Z) (kv0 : jk Z v0 12) (h : f_X12_peace v0 Z I L Q) : jCt l yX12_peace w_X12_peace { frames := 6, cells := 0, slots := 0, locals := 145 } D cy [.ref v0] Z I L (xrtI Z Q) := by
  refine jCt_of (cc := cX12_peace) (maxL := 7) (ret := (some .int)) (by decide +kernel) rfl (Nat.le_of_ble_eq_true rfl) ?_
  intro G eD eY eL E
  subst eD; subst eY; subst eL
  have E : jE G cX12_peace RX12 w_X12_peace 7 (some .int) { frames := 6, cells := 0, slots := 0, locals := 145 } (xrtI Z Q) := E
  have hx : jext Z Z := jext_rfl
  show jJ G 7 0 [(0, .ref v0)] [] Z I L 0 0
  refine j_aload_n E dX12_peace_0 0 rfl ?_
  refine j_iconst E (v := 0) dX12_peace_1 (by decide) ?_
  refine j_puti E 12 22 rfl rfl (by decide) (by decide) (iw iT_12) tyX12_ok nmX12 rfl rfl (tw W_674) rfl rfl rfl kv0 dX12_peace_2 ?_
  refine j_nmI (fun I44 eI44 => ?_)
  have h := h I44 eI44
  refine j_aload_n E dX12_peace_5 0 rfl ?_
  refine j_callV E [] [] (c_X12_findAll (gL G) (gD G) (gY G) v0 Z I44 L _ hZ kv0 h) (gwV W_857 W_858 W_859 W_679 W_856) rfl ⟨rfl, fy_X12_findAll⟩ ⟨by decide, by decide⟩ (c := 12) rfl (by decide) kv0 rfl rfl (Nat.le_of_ble_eq_true rfl) ⟨Nat.zero_le _, Nat.zero_le _⟩ dX12_peace_6 (fun v45 Z46 I47 L48 q49 => ?_)
  obtain ⟨yZ46, hZ46, rfl, h⟩ := q49
  have hZ := hZ46
  have hx : jext Z Z46 := jext_trans hx yZ46
  have k50 := (yZ46 _ _ kv0).1
  show jJ G 7 9 [(0, .ref v0)] [] Z46 I47 L48 0 0
  refine j_aload_n E dX12_peace_9 0 rfl ?_
  refine j_geti E 12 48 rfl rfl (by decide) (by decide) (iw iT_12) rfl rfl (tw W_853) k50 dX12_peace_10 ?_
  refine j_topi (fun x51 ex51 => ?_)
  have h := h x51 ex51
  refine j_istore_n E 1 [(1, .int x51), (0, .ref v0)] dX12_peace_13 rfl (by decide) rfl ?_
  refine j_bipush E (v := -2) dX12_peace_14 (by decide) ?_
  refine j_istore_n E 2 [(2, .int (-2 : Int32)), (1, .int x51), (0, .ref v0)] dX12_peace_16 rfl (by decide) rfl ?_
  refine j_iconst E (v := 0) dX12_peace_17 (by decide) ?_
  refine j_istore_n E 3 [(3, .int (0 : Int32)), (2, .int (-2 : Int32)), (1, .int x51), (0, .ref v0)] dX12_peace_18 rfl (by decide) rfl ?_
  refine j_iconst E (v := 0) dX12_peace_19 (by decide) ?_
  refine j_istore E 4 [(4, .int (0 : Int32)), (3, .int (0 : Int32)), (2, .int (-2 : Int32)), (1, .int x51), (0, .ref v0)] dX12_peace_20 (by decide) rfl ?_
  refine j_iconst E (v := 0) dX12_peace_22 (by decide) ?_
  refine j_istore E 5 [(5, .int (0 : Int32)), (4, .int (0 : Int32)), (3, .int (0 : Int32)), (2, .int (-2 : Int32)), (1, .int x51), (0, .ref v0)] dX12_peace_23 (by decide) rfl ?_
  obtain ⟨n52, h⟩ := h
  refine j_sub [5, 4, 3, 2, 1, 0] rfl ?_
  exact m_X12_peace_L25 E  n52 v0 x51 (-2 : Int32) (0 : Int32) (0 : Int32) (0 : Int32) Z46 I47 L48 hZ hx k50 h
set_option maxRecDepth 100000 in
def f_X12_lamps_L33  (Z : jZ) (Q : Int32 → jI → jL → Prop) : Nat → Nat → Int32 → Int32 → Int32 → jI → jL → Prop
  | 0 => fun _ _ _ _ _ _ => False
  | n + 1 => fun v0 v1 v2 v3 I L => (((I v0 0) ≤ v3 → Q v2 I L) ∧ (¬ ((I v0 0) ≤ v3) → (∀ x2 : Int32, x2 = (if (v3 + v1) < ((I v0 0) - (1 : Int32)) then (v3 + v1) else ((I v0 0) - (1 : Int32))) → (f_X12_tell v0 (x2.toInt64) Z I L (fun I5 L6 => (∀ x8 : Int32, x8 = ((x2 + v1) + (1 : Int32)) → (∀ x9 : Int32, x9 = v2 + 1 → (f_X12_lamps_L33 Z Q n) v0 v1 x9 x8 I5 L6)))))))
set_option maxHeartbeats 4000000 in
set_option maxRecDepth 100000 in
theorem m_X12_lamps_L33 {G : jG} {Z : jZ} {Q : Int32 → jI → jL → Prop} (E : jE G cX12_lamps RX12 w_X12_lamps 5 (some .int) { frames := 1, cells := 0, slots := 0, locals := 23 } (rtI Z Q)) (hZ : SH Z)  : ∀ (n : Nat) (v0 : Nat) (v1 : Int32) (v2 : Int32) (v3 : Int32) (I : jI) (L : jL), jk Z v0 12 → f_X12_lamps_L33  Z Q n v0 v1 v2 v3 I L → jJ G 5 33 [(0, .ref v0), (1, .int v1), (2, .int v2), (3, .int v3)] [] Z I L 0 0 := by
  intro n
  induction n with
  | zero => intro v0 v1 v2 v3 I L _ h; exact h.elim
  | succ n ih =>
    intro v0 v1 v2 v3 I L kv0 h
    have h : (((I v0 0) ≤ v3 → Q v2 I L) ∧ (¬ ((I v0 0) ≤ v3) → (∀ x2 : Int32, x2 = (if (v3 + v1) < ((I v0 0) - (1 : Int32)) then (v3 + v1) else ((I v0 0) - (1 : Int32))) → (f_X12_tell v0 (x2.toInt64) Z I L (fun I5 L6 => (∀ x8 : Int32, x8 = ((x2 + v1) + (1 : Int32)) → (∀ x9 : Int32, x9 = v2 + 1 → (f_X12_lamps_L33 Z Q n) v0 v1 x9 x8 I5 L6))))))) := h
    obtain ⟨K33, eK33⟩ : ∃ K : Nat → Int32 → Int32 → Int32 → jI → jL → Prop, K = f_X12_lamps_L33  Z Q n := ⟨_, rfl⟩
    have hK33 := ih
    clear eK33 K33
    generalize f_X12_lamps_L33  Z Q n = K33 at hK33 h
    refine j_iload_n E dX12_lamps_33 3 rfl ?_
    refine j_aload_n E dX12_lamps_34 0 rfl ?_
    refine j_geti E 12 0 rfl rfl (by decide) (by decide) (iw iT_12) rfl rfl (tw W_677) kv0 dX12_lamps_35 ?_
    refine j_icmp_ge E 75 dX12_lamps_38 (by decide) (fun c1 => ?_) (fun c1 => ?_)
    · have h := h.1 c1
      refine j_iload_n E dX12_lamps_75 2 rfl ?_
      exact j_ireturn E ⟨rfl, _, rfl, h⟩ (Nat.zero_le _) (Nat.zero_le _) dX12_lamps_76
    · have h := h.2 c1
      refine j_aload_n E dX12_lamps_41 0 rfl ?_
      refine j_geti E 12 0 rfl rfl (by decide) (by decide) (iw iT_12) rfl rfl (tw W_677) kv0 dX12_lamps_42 ?_
      refine j_iconst E (v := 1) dX12_lamps_45 (by decide) ?_
      refine j_isub E dX12_lamps_46 ?_
      refine j_iload_n E dX12_lamps_47 3 rfl ?_
      refine j_iload_n E dX12_lamps_48 1 rfl ?_
      refine j_iadd E dX12_lamps_49 ?_
      refine j_min E (tw W_755) (tw W_118) (tw W_119) (tw W_120) (by decide) (Nat.le_of_ble_eq_true rfl) (Nat.zero_le _) (Nat.zero_le _) dX12_lamps_50 ?_
      refine j_topi (fun x2 ex2 => ?_)
      have h := h x2 ex2
      refine j_istore E 4 [(4, .int x2), (0, .ref v0), (1, .int v1), (2, .int v2), (3, .int v3)] dX12_lamps_53 (by decide) rfl ?_
      refine j_aload_n E dX12_lamps_55 1 rfl ?_
      refine j_iload E dX12_lamps_56 0 rfl ?_
      refine j_i2l E dX12_lamps_58 ?_
      refine j_callV E [.long (x2.toInt64)] [] (c_X12_tell (gL G) (gD G) (gY G) v0 (x2.toInt64) Z I L _ hZ kv0 h) (gwV W_784 W_785 W_786 W_679 W_783) rfl ⟨rfl, fy_X12_tell⟩ ⟨by decide, by decide⟩ (c := 12) rfl (by decide) kv0 rfl rfl (Nat.le_of_ble_eq_true rfl) ⟨Nat.zero_le _, Nat.zero_le _⟩ dX12_lamps_59 (fun v3 Z4 I5 L6 q7 => ?_)
      obtain ⟨rfl, rfl, h⟩ := q7
      show jJ G 5 62 [(4, .int x2), (0, .ref v0), (1, .int v1), (2, .int v2), (3, .int v3)] [] Z I5 L6 0 0
      refine j_iload E dX12_lamps_62 0 rfl ?_
      refine j_iload_n E dX12_lamps_64 2 rfl ?_
      refine j_iadd E dX12_lamps_65 ?_
      refine j_iconst E (v := 1) dX12_lamps_66 (by decide) ?_
      refine j_iadd E dX12_lamps_67 ?_
      refine j_topi (fun x8 ex8 => ?_)
      have h := h x8 ex8
      refine j_istore_n E 3 [(3, .int x8), (4, .int x2), (0, .ref v0), (1, .int v1), (2, .int v2)] dX12_lamps_68 rfl (by decide) rfl ?_
      obtain ⟨x9, ex9⟩ : ∃ y : Int32, y = v2 + 1 := ⟨_, rfl⟩
      have h := h x9 ex9
      refine j_iinc E x9 [(2, .int x9), (3, .int x8), (4, .int x2), (0, .ref v0), (1, .int v1)] dX12_lamps_69 4 rfl (by rw [ex9]; rfl) (by decide) rfl ?_
      refine j_goto E 33 dX12_lamps_72 (by decide) ?_
      refine j_sub [3, 4, 0, 1] rfl ?_
      exact hK33 v0 v1 x9 x8 I5 L6 kv0 h
set_option maxRecDepth 100000 in
def f_X12_lamps (v0 : Nat) (v1 : Int32) (Z : jZ) (I : jI) (L : jL) (Q : Int32 → jI → jL → Prop) : Prop := (∀ I10 : jI, I10 = jpI I v0 22 (0 : Int32) → (((I10 v0 0) = 0 → Q (-1 : Int32) I10 L) ∧ (¬ ((I10 v0 0) = 0) → (f_X12_in v1 (0 : Int32) (23 : Int32) Z I10 L (fun r17 I14 L15 => ((¬ r17 = 0 → (∀ I19 : jI, I19 = jpI I14 v0 21 (0 : Int32) → (∃ m33 : Nat, f_X12_lamps_L33  Z Q m33 v0 v1 (0 : Int32) (0 : Int32) I19 L15))) ∧ (r17 = 0 → Q (-1 : Int32) I14 L15)))))))
set_option maxHeartbeats 4000000 in
set_option maxRecDepth 100000 in
theorem c_X12_lamps (l : Launch) (D : va_G) (cy : jC) (v0 : Nat) (v1 : Int32) (Z : jZ) (I : jI) (L : jL) (Q : Int32 → jI → jL → Prop) (hZ : SH Z) (kv0 : jk Z v0 12) (h : f_X12_lamps v0 v1 Z I L Q) : jCt l yX12_lamps w_X12_lamps { frames := 1, cells := 0, slots := 0, locals := 23 } D cy [.ref v0, .int v1] Z I L (rtI Z Q) := by
  refine jCt_of (cc := cX12_lamps) (maxL := 5) (ret := (some .int)) (by decide +kernel) rfl (Nat.le_of_ble_eq_true rfl) ?_
  intro G eD eY eL E
  subst eD; subst eY; subst eL
  have E : jE G cX12_lamps RX12 w_X12_lamps 5 (some .int) { frames := 1, cells := 0, slots := 0, locals := 23 } (rtI Z Q) := E
  show jJ G 5 0 [(0, .ref v0), (1, .int v1)] [] Z I L 0 0
  refine j_aload_n E dX12_lamps_0 0 rfl ?_
  refine j_iconst E (v := 0) dX12_lamps_1 (by decide) ?_
  refine j_puti E 12 22 rfl rfl (by decide) (by decide) (iw iT_12) tyX12_ok nmX12 rfl rfl (tw W_674) rfl rfl rfl kv0 dX12_lamps_2 ?_
  refine j_nmI (fun I10 eI10 => ?_)
  have h := h I10 eI10
  refine j_aload_n E dX12_lamps_5 0 rfl ?_
  refine j_geti E 12 0 rfl rfl (by decide) (by decide) (iw iT_12) rfl rfl (tw W_677) kv0 dX12_lamps_6 ?_
  refine j_if_eq E 22 dX12_lamps_9 (by decide) (fun c11 => ?_) (fun c11 => ?_)
  · have h := h.1 c11
    refine j_iconst E (v := -1) dX12_lamps_22 (by decide) ?_
    exact j_ireturn E ⟨rfl, _, rfl, h⟩ (Nat.zero_le _) (Nat.zero_le _) dX12_lamps_23
  · have h := h.2 c11
    refine j_iload_n E dX12_lamps_12 1 rfl ?_
    refine j_iconst E (v := 0) dX12_lamps_13 (by decide) ?_
    refine j_bipush E (v := 23) dX12_lamps_14 (by decide) ?_
    refine j_callS E [.int v1, .int (0 : Int32), .int (23 : Int32)] [] (c_X12_in (gL G) (gD G) (gY G) v1 (0 : Int32) (23 : Int32) Z I10 L _ hZ  h) (gwS W_680 W_681 W_679 W_678) rfl fy_X12_in ⟨by decide, by decide⟩ rfl rfl (Nat.le_of_ble_eq_true rfl) ⟨Nat.zero_le _, Nat.zero_le _⟩ dX12_lamps_16 (fun v12 Z13 I14 L15 q16 => ?_)
    obtain ⟨rfl, r17, rfl, zr17, h⟩ := q16
    show jJ G 5 19 [(0, .ref v0), (1, .int v1)] [.int r17] Z I14 L15 0 0
    refine j_if_ne E 24 dX12_lamps_19 (by decide) (fun c18 => ?_) (fun c18 => ?_)
    · have h := h.1 c18
      refine j_aload_n E dX12_lamps_24 0 rfl ?_
      refine j_iconst E (v := 0) dX12_lamps_25 (by decide) ?_
      refine j_puti E 12 21 rfl rfl (by decide) (by decide) (iw iT_12) tyX12_ok nmX12 rfl rfl (tw W_676) rfl rfl rfl kv0 dX12_lamps_26 ?_
      refine j_nmI (fun I19 eI19 => ?_)
      have h := h I19 eI19
      refine j_iconst E (v := 0) dX12_lamps_29 (by decide) ?_
      refine j_istore_n E 2 [(2, .int (0 : Int32)), (0, .ref v0), (1, .int v1)] dX12_lamps_30 rfl (by decide) rfl ?_
      refine j_iconst E (v := 0) dX12_lamps_31 (by decide) ?_
      refine j_istore_n E 3 [(3, .int (0 : Int32)), (2, .int (0 : Int32)), (0, .ref v0), (1, .int v1)] dX12_lamps_32 rfl (by decide) rfl ?_
      obtain ⟨n20, h⟩ := h
      refine j_sub [2, 3, 1, 0] rfl ?_
      exact m_X12_lamps_L33 E hZ  n20 v0 v1 (0 : Int32) (0 : Int32) I19 L15 kv0 h
    · have h := h.2 c18
      refine j_iconst E (v := -1) dX12_lamps_22 (by decide) ?_
      exact j_ireturn E ⟨rfl, _, rfl, h⟩ (Nat.zero_le _) (Nat.zero_le _) dX12_lamps_23
set_option maxRecDepth 100000 in
def f_X12_paidTo_b124 (K20 : Nat → Int32 → Int32 → Int32 → Int32 → jZ → jI → jL → Prop) (Q : Int32 → jZ → jI → jL → Prop) (v0 : Nat) (v1 : Int32) (v3 : Int32) (v4 : Int32) (v5 : Int32) (Z : jZ) (I : jI) (L : jL) : Prop := (∀ x1 : Int32, x1 = v5 + 1 → K20 v0 v1 v3 v4 x1 Z I L)
set_option maxHeartbeats 4000000 in
set_option maxRecDepth 100000 in
theorem m_X12_paidTo_b124 {G : jG} {Z0 : jZ} {Q : Int32 → jZ → jI → jL → Prop} (E : jE G cX12_paidTo RX12 w_X12_paidTo 9 (some .int) { frames := 5, cells := 0, slots := 0, locals := 124 } (xrtI Z0 Q)) (K20 : Nat → Int32 → Int32 → Int32 → Int32 → jZ → jI → jL → Prop) (hK20 : ∀ (v0 : Nat) (v1 : Int32) (v3 : Int32) (v4 : Int32) (v5 : Int32) (Z : jZ) (I : jI) (L : jL), SH Z → jext Z0 Z → jk Z v0 12 → K20 v0 v1 v3 v4 v5 Z I L → jJ G 9 20 [(0, .ref v0), (1, .int v1), (3, .int v3), (4, .int v4), (5, .int v5)] [] Z I L 0 0) (v0 : Nat) (v1 : Int32) (v3 : Int32) (v4 : Int32) (v5 : Int32) (Z : jZ) (I : jI) (L : jL) (hZ : SH Z) (hx : jext Z0 Z) (kv0 : jk Z v0 12) (h : f_X12_paidTo_b124 K20 Q v0 v1 v3 v4 v5 Z I L) : jJ G 9 124 [(0, .ref v0), (1, .int v1), (3, .int v3), (4, .int v4), (5, .int v5)] [] Z I L 0 0 := by
  obtain ⟨x1, ex1⟩ : ∃ y : Int32, y = v5 + 1 := ⟨_, rfl⟩
  have h := h x1 ex1
  refine j_iinc E x1 [(5, .int x1), (0, .ref v0), (1, .int v1), (3, .int v3), (4, .int v4)] dX12_paidTo_124 4 rfl (by rw [ex1]; rfl) (by decide) rfl ?_
  refine j_goto E 20 dX12_paidTo_127 (by decide) ?_
  refine j_sub [1, 2, 3, 4, 0] rfl ?_
  exact hK20 v0 v1 v3 v4 x1 Z I L hZ hx kv0 h
set_option maxRecDepth 100000 in
def f_X12_paidTo_b114 (K20 : Nat → Int32 → Int32 → Int32 → Int32 → jZ → jI → jL → Prop) (K47 : Nat → Int32 → Int32 → Int32 → Int32 → Int32 → Int32 → jZ → jI → jL → Prop) (Q : Int32 → jZ → jI → jL → Prop) (v0 : Nat) (v1 : Int32) (v3 : Int32) (v4 : Int32) (v5 : Int32) (v7 : Int32) (v8 : Int32) (Z : jZ) (I : jI) (L : jL) : Prop := (∀ x2 : Int32, x2 = v7 + 1 → K47 v0 v1 v3 v4 v5 v8 x2 Z I L)
set_option maxHeartbeats 4000000 in
set_option maxRecDepth 100000 in
theorem m_X12_paidTo_b114 {G : jG} {Z0 : jZ} {Q : Int32 → jZ → jI → jL → Prop} (E : jE G cX12_paidTo RX12 w_X12_paidTo 9 (some .int) { frames := 5, cells := 0, slots := 0, locals := 124 } (xrtI Z0 Q)) (K20 : Nat → Int32 → Int32 → Int32 → Int32 → jZ → jI → jL → Prop) (hK20 : ∀ (v0 : Nat) (v1 : Int32) (v3 : Int32) (v4 : Int32) (v5 : Int32) (Z : jZ) (I : jI) (L : jL), SH Z → jext Z0 Z → jk Z v0 12 → K20 v0 v1 v3 v4 v5 Z I L → jJ G 9 20 [(0, .ref v0), (1, .int v1), (3, .int v3), (4, .int v4), (5, .int v5)] [] Z I L 0 0) (K47 : Nat → Int32 → Int32 → Int32 → Int32 → Int32 → Int32 → jZ → jI → jL → Prop) (hK47 : ∀ (v0 : Nat) (v1 : Int32) (v3 : Int32) (v4 : Int32) (v5 : Int32) (v6 : Int32) (v7 : Int32) (Z : jZ) (I : jI) (L : jL), SH Z → jext Z0 Z → jk Z v0 12 → K47 v0 v1 v3 v4 v5 v6 v7 Z I L → jJ G 9 47 [(0, .ref v0), (1, .int v1), (3, .int v3), (4, .int v4), (5, .int v5), (6, .int v6), (7, .int v7)] [] Z I L 0 0) (v0 : Nat) (v1 : Int32) (v3 : Int32) (v4 : Int32) (v5 : Int32) (v7 : Int32) (v8 : Int32) (Z : jZ) (I : jI) (L : jL) (hZ : SH Z) (hx : jext Z0 Z) (kv0 : jk Z v0 12) (h : f_X12_paidTo_b114 K20 K47 Q v0 v1 v3 v4 v5 v7 v8 Z I L) : jJ G 9 114 [(0, .ref v0), (1, .int v1), (3, .int v3), (4, .int v4), (5, .int v5), (7, .int v7), (8, .int v8)] [] Z I L 0 0 := by
  refine j_iload E dX12_paidTo_114 6 rfl ?_
  refine j_istore E 6 [(6, .int v8), (0, .ref v0), (1, .int v1), (3, .int v3), (4, .int v4), (5, .int v5), (7, .int v7), (8, .int v8)] dX12_paidTo_116 (by decide) rfl ?_
  obtain ⟨x2, ex2⟩ : ∃ y : Int32, y = v7 + 1 := ⟨_, rfl⟩
  have h := h x2 ex2
  refine j_iinc E x2 [(7, .int x2), (6, .int v8), (0, .ref v0), (1, .int v1), (3, .int v3), (4, .int v4), (5, .int v5), (8, .int v8)] dX12_paidTo_118 6 rfl (by rw [ex2]; rfl) (by decide) rfl ?_
  refine j_goto E 47 dX12_paidTo_121 (by decide) ?_
  refine j_sub [2, 3, 4, 5, 6, 1, 0] rfl ?_
  exact hK47 v0 v1 v3 v4 v5 v8 x2 Z I L hZ hx kv0 h
set_option maxRecDepth 100000 in
def f_X12_paidTo_b91 (K20 : Nat → Int32 → Int32 → Int32 → Int32 → jZ → jI → jL → Prop) (K47 : Nat → Int32 → Int32 → Int32 → Int32 → Int32 → Int32 → jZ → jI → jL → Prop) (Q : Int32 → jZ → jI → jL → Prop) (v0 : Nat) (v1 : Int32) (v3 : Int32) (v5 : Int32) (v6 : Int32) (v7 : Int32) (v8 : Int32) (s0 : Int32) (s1 : Nat) (s2 : Int32) (Z : jZ) (I : jI) (L : jL) : Prop := (∀ b3 : Nat, jr Z v0 12 = some b3 → (vp_in v5 6 ∧ (f_X12_lawOf s1 s2 v1 v6 (I b3 v5.toNatClampNeg) ((v8 - v6) - (1 : Int32)) Z I L (fun r10 Z6 I7 L8 => (∀ x12 : Int32, x12 = (s0 + r10) → f_X12_paidTo_b114 K20 K47 Q v0 v1 v3 x12 v5 v7 v8 Z6 I7 L8)))))
set_option maxHeartbeats 4000000 in
set_option maxRecDepth 100000 in
theorem m_X12_paidTo_b91 {G : jG} {Z0 : jZ} {Q : Int32 → jZ → jI → jL → Prop} (E : jE G cX12_paidTo RX12 w_X12_paidTo 9 (some .int) { frames := 5, cells := 0, slots := 0, locals := 124 } (xrtI Z0 Q)) (K20 : Nat → Int32 → Int32 → Int32 → Int32 → jZ → jI → jL → Prop) (hK20 : ∀ (v0 : Nat) (v1 : Int32) (v3 : Int32) (v4 : Int32) (v5 : Int32) (Z : jZ) (I : jI) (L : jL), SH Z → jext Z0 Z → jk Z v0 12 → K20 v0 v1 v3 v4 v5 Z I L → jJ G 9 20 [(0, .ref v0), (1, .int v1), (3, .int v3), (4, .int v4), (5, .int v5)] [] Z I L 0 0) (K47 : Nat → Int32 → Int32 → Int32 → Int32 → Int32 → Int32 → jZ → jI → jL → Prop) (hK47 : ∀ (v0 : Nat) (v1 : Int32) (v3 : Int32) (v4 : Int32) (v5 : Int32) (v6 : Int32) (v7 : Int32) (Z : jZ) (I : jI) (L : jL), SH Z → jext Z0 Z → jk Z v0 12 → K47 v0 v1 v3 v4 v5 v6 v7 Z I L → jJ G 9 47 [(0, .ref v0), (1, .int v1), (3, .int v3), (4, .int v4), (5, .int v5), (6, .int v6), (7, .int v7)] [] Z I L 0 0) (v0 : Nat) (v1 : Int32) (v3 : Int32) (v5 : Int32) (v6 : Int32) (v7 : Int32) (v8 : Int32) (s0 : Int32) (s1 : Nat) (s2 : Int32) (Z : jZ) (I : jI) (L : jL) (hZ : SH Z) (hx : jext Z0 Z) (kv0 : jk Z v0 12) (ks1 : jk Z s1 12) (h : f_X12_paidTo_b91 K20 K47 Q v0 v1 v3 v5 v6 v7 v8 s0 s1 s2 Z I L) : jJ G 9 91 [(0, .ref v0), (1, .int v1), (3, .int v3), (5, .int v5), (6, .int v6), (7, .int v7), (8, .int v8)] [.int s2, .ref s1, .int s0] Z I L 0 0 := by
  refine j_iload_n E dX12_paidTo_91 1 rfl ?_
  refine j_iload E dX12_paidTo_92 4 rfl ?_
  refine j_aload_n E dX12_paidTo_94 0 rfl ?_
  obtain ⟨b3, eb3, kb3, lb3⟩ := sh_f hZ kv0 (j := 12) (k := 14) (m := 6) rfl
  have h := h b3 eb3
  refine j_getr E 12 12 rfl rfl (by decide) (by decide) (iw iT_12) rfl rfl (tw W_765) kv0 eb3 dX12_paidTo_95 ?_
  refine j_iload E dX12_paidTo_98 3 rfl ?_
  obtain ⟨o4, h⟩ := h
  refine j_iald E kb3 (by rw [lb3]; exact o4) dX12_paidTo_100 ?_
  refine j_iload E dX12_paidTo_101 6 rfl ?_
  refine j_iload E dX12_paidTo_103 4 rfl ?_
  refine j_isub E dX12_paidTo_105 ?_
  refine j_iconst E (v := 1) dX12_paidTo_106 (by decide) ?_
  refine j_isub E dX12_paidTo_107 ?_
  refine j_callV E [.int s2, .int v1, .int v6, .int (I b3 v5.toNatClampNeg), .int ((v8 - v6) - (1 : Int32))] [.int s0] (c_X12_lawOf (gL G) (gD G) (gY G) s1 s2 v1 v6 (I b3 v5.toNatClampNeg) ((v8 - v6) - (1 : Int32)) Z I L _ hZ ks1 h) (gwV W_772 W_773 W_774 W_679 W_771) rfl ⟨rfl, fy_X12_lawOf⟩ ⟨by decide, by decide⟩ (c := 12) rfl (by decide) ks1 rfl rfl (Nat.le_of_ble_eq_true rfl) ⟨Nat.zero_le _, Nat.zero_le _⟩ dX12_paidTo_108 (fun v5 Z6 I7 L8 q9 => ?_)
  obtain ⟨yZ6, hZ6, r10, rfl, h⟩ := q9
  have hZ := hZ6
  have hx : jext Z0 Z6 := jext_trans hx yZ6
  have k11 := (yZ6 _ _ kv0).1
  show jJ G 9 111 [(0, .ref v0), (1, .int v1), (3, .int v3), (5, .int v5), (6, .int v6), (7, .int v7), (8, .int v8)] [.int r10, .int s0] Z6 I7 L8 0 0
  refine j_iadd E dX12_paidTo_111 ?_
  refine j_topi (fun x12 ex12 => ?_)
  have h := h x12 ex12
  refine j_istore E 4 [(4, .int x12), (0, .ref v0), (1, .int v1), (3, .int v3), (5, .int v5), (6, .int v6), (7, .int v7), (8, .int v8)] dX12_paidTo_112 (by decide) rfl ?_
  refine j_sub [1, 2, 3, 0, 4, 6, 7] rfl ?_
  exact m_X12_paidTo_b114 E K20 hK20 K47 hK47 v0 v1 v3 x12 v5 v7 v8 Z6 I7 L8 hZ hx k11 h
set_option maxRecDepth 100000 in
def f_X12_paidTo_L47 (K20 : Nat → Int32 → Int32 → Int32 → Int32 → jZ → jI → jL → Prop) (Q : Int32 → jZ → jI → jL → Prop) : Nat → Nat → Int32 → Int32 → Int32 → Int32 → Int32 → Int32 → jZ → jI → jL → Prop
  | 0 => fun _ _ _ _ _ _ _ _ _ _ => False
  | n + 1 => fun v0 v1 v3 v4 v5 v6 v7 Z I L => (((I v0 43) ≤ v7 → f_X12_paidTo_b124 K20 Q v0 v1 v3 v4 v5 Z I L) ∧ (¬ ((I v0 43) ≤ v7) → (∀ b14 : Nat, jr Z v0 44 = some b14 → (vp_in v7 24 ∧ (∀ x16 : Int32, x16 = (I b14 v7.toNatClampNeg) → ((v1 ≤ v6 → f_X12_paidTo_b114 K20 (f_X12_paidTo_L47 K20 Q n) Q v0 v1 v3 v4 v5 v7 x16 Z I L) ∧ (¬ (v1 ≤ v6) → ((x16 < v1 → f_X12_paidTo_b114 K20 (f_X12_paidTo_L47 K20 Q n) Q v0 v1 v3 v4 v5 v7 x16 Z I L) ∧ (¬ (x16 < v1) → ((¬ v1 = x16 → f_X12_paidTo_b91 K20 (f_X12_paidTo_L47 K20 Q n) Q v0 v1 v3 v5 v6 v7 x16 v4 v0 (1 : Int32) Z I L) ∧ (v1 = x16 → f_X12_paidTo_b91 K20 (f_X12_paidTo_L47 K20 Q n) Q v0 v1 v3 v5 v6 v7 x16 v4 v0 (0 : Int32) Z I L)))))))))))
set_option maxHeartbeats 4000000 in
set_option maxRecDepth 100000 in
theorem m_X12_paidTo_L47 {G : jG} {Z0 : jZ} {Q : Int32 → jZ → jI → jL → Prop} (E : jE G cX12_paidTo RX12 w_X12_paidTo 9 (some .int) { frames := 5, cells := 0, slots := 0, locals := 124 } (xrtI Z0 Q)) (K20 : Nat → Int32 → Int32 → Int32 → Int32 → jZ → jI → jL → Prop) (hK20 : ∀ (v0 : Nat) (v1 : Int32) (v3 : Int32) (v4 : Int32) (v5 : Int32) (Z : jZ) (I : jI) (L : jL), SH Z → jext Z0 Z → jk Z v0 12 → K20 v0 v1 v3 v4 v5 Z I L → jJ G 9 20 [(0, .ref v0), (1, .int v1), (3, .int v3), (4, .int v4), (5, .int v5)] [] Z I L 0 0) : ∀ (n : Nat) (v0 : Nat) (v1 : Int32) (v3 : Int32) (v4 : Int32) (v5 : Int32) (v6 : Int32) (v7 : Int32) (Z : jZ) (I : jI) (L : jL), SH Z → jext Z0 Z → jk Z v0 12 → f_X12_paidTo_L47 K20 Q n v0 v1 v3 v4 v5 v6 v7 Z I L → jJ G 9 47 [(0, .ref v0), (1, .int v1), (3, .int v3), (4, .int v4), (5, .int v5), (6, .int v6), (7, .int v7)] [] Z I L 0 0 := by
  intro n
  induction n with
  | zero => intro v0 v1 v3 v4 v5 v6 v7 Z I L _ _ _ h; exact h.elim
  | succ n ih =>
    intro v0 v1 v3 v4 v5 v6 v7 Z I L hZ hx kv0 h
    have h : (((I v0 43) ≤ v7 → f_X12_paidTo_b124 K20 Q v0 v1 v3 v4 v5 Z I L) ∧ (¬ ((I v0 43) ≤ v7) → (∀ b14 : Nat, jr Z v0 44 = some b14 → (vp_in v7 24 ∧ (∀ x16 : Int32, x16 = (I b14 v7.toNatClampNeg) → ((v1 ≤ v6 → f_X12_paidTo_b114 K20 (f_X12_paidTo_L47 K20 Q n) Q v0 v1 v3 v4 v5 v7 x16 Z I L) ∧ (¬ (v1 ≤ v6) → ((x16 < v1 → f_X12_paidTo_b114 K20 (f_X12_paidTo_L47 K20 Q n) Q v0 v1 v3 v4 v5 v7 x16 Z I L) ∧ (¬ (x16 < v1) → ((¬ v1 = x16 → f_X12_paidTo_b91 K20 (f_X12_paidTo_L47 K20 Q n) Q v0 v1 v3 v5 v6 v7 x16 v4 v0 (1 : Int32) Z I L) ∧ (v1 = x16 → f_X12_paidTo_b91 K20 (f_X12_paidTo_L47 K20 Q n) Q v0 v1 v3 v5 v6 v7 x16 v4 v0 (0 : Int32) Z I L))))))))))) := h
    obtain ⟨K47, eK47⟩ : ∃ K : Nat → Int32 → Int32 → Int32 → Int32 → Int32 → Int32 → jZ → jI → jL → Prop, K = f_X12_paidTo_L47 K20 Q n := ⟨_, rfl⟩
    have hK47 := ih
    clear eK47 K47
    generalize f_X12_paidTo_L47 K20 Q n = K47 at hK47 h
    refine j_iload E dX12_paidTo_47 6 rfl ?_
    refine j_aload_n E dX12_paidTo_49 0 rfl ?_
    refine j_geti E 12 43 rfl rfl (by decide) (by decide) (iw iT_12) rfl rfl (tw W_816) kv0 dX12_paidTo_50 ?_
    refine j_icmp_ge E 124 dX12_paidTo_53 (by decide) (fun c13 => ?_) (fun c13 => ?_)
    · have h := h.1 c13
      refine j_sub [0, 1, 2, 3, 4] rfl ?_
      exact m_X12_paidTo_b124 E K20 hK20 v0 v1 v3 v4 v5 Z I L hZ hx kv0 h
    · have h := h.2 c13
      refine j_aload_n E dX12_paidTo_56 0 rfl ?_
      obtain ⟨b14, eb14, kb14, lb14⟩ := sh_f hZ kv0 (j := 44) (k := 14) (m := 24) rfl
      have h := h b14 eb14
      refine j_getr E 12 44 rfl rfl (by decide) (by decide) (iw iT_12) rfl rfl (tw W_815) kv0 eb14 dX12_paidTo_57 ?_
      refine j_iload E dX12_paidTo_60 6 rfl ?_
      obtain ⟨o15, h⟩ := h
      refine j_iald E kb14 (by rw [lb14]; exact o15) dX12_paidTo_62 ?_
      refine j_topi (fun x16 ex16 => ?_)
      have h := h x16 ex16
      refine j_istore E 8 [(8, .int x16), (0, .ref v0), (1, .int v1), (3, .int v3), (4, .int v4), (5, .int v5), (6, .int v6), (7, .int v7)] dX12_paidTo_63 (by decide) rfl ?_
      refine j_iload_n E dX12_paidTo_65 2 rfl ?_
      refine j_iload E dX12_paidTo_66 6 rfl ?_
      refine j_icmp_le E 114 dX12_paidTo_68 (by decide) (fun c17 => ?_) (fun c17 => ?_)
      · have h := h.1 c17
        refine j_sub [1, 2, 3, 4, 5, 7, 0] rfl ?_
        exact m_X12_paidTo_b114 E K20 hK20 K47 hK47 v0 v1 v3 v4 v5 v7 x16 Z I L hZ hx kv0 h
      · have h := h.2 c17
        refine j_iload_n E dX12_paidTo_71 2 rfl ?_
        refine j_iload E dX12_paidTo_72 0 rfl ?_
        refine j_icmp_gt E 114 dX12_paidTo_74 (by decide) (fun c18 => ?_) (fun c18 => ?_)
        · have h := h.1 c18
          refine j_sub [1, 2, 3, 4, 5, 7, 0] rfl ?_
          exact m_X12_paidTo_b114 E K20 hK20 K47 hK47 v0 v1 v3 v4 v5 v7 x16 Z I L hZ hx kv0 h
        · have h := h.2 c18
          refine j_iload E dX12_paidTo_77 4 rfl ?_
          refine j_aload_n E dX12_paidTo_79 1 rfl ?_
          refine j_iload_n E dX12_paidTo_80 2 rfl ?_
          refine j_iload E dX12_paidTo_81 0 rfl ?_
          refine j_icmp_ne E 90 dX12_paidTo_83 (by decide) (fun c19 => ?_) (fun c19 => ?_)
          · have h := h.1 c19
            refine j_iconst E (v := 1) dX12_paidTo_90 (by decide) ?_
            refine j_sub [1, 2, 3, 5, 6, 7, 0] rfl ?_
            exact m_X12_paidTo_b91 E K20 hK20 K47 hK47 v0 v1 v3 v5 v6 v7 x16 v4 v0 (1 : Int32) Z I L hZ hx kv0 kv0 h
          · have h := h.2 c19
            refine j_iconst E (v := 0) dX12_paidTo_86 (by decide) ?_
            refine j_goto E 91 dX12_paidTo_87 (by decide) ?_
            refine j_sub [1, 2, 3, 5, 6, 7, 0] rfl ?_
            exact m_X12_paidTo_b91 E K20 hK20 K47 hK47 v0 v1 v3 v5 v6 v7 x16 v4 v0 (0 : Int32) Z I L hZ hx kv0 kv0 h
set_option maxRecDepth 100000 in
def f_X12_paidTo_L20  (Q : Int32 → jZ → jI → jL → Prop) : Nat → Nat → Int32 → Int32 → Int32 → Int32 → jZ → jI → jL → Prop
  | 0 => fun _ _ _ _ _ _ _ _ => False
  | n + 1 => fun v0 v1 v3 v4 v5 Z I L => (((I v0 8) ≤ v5 → (∀ b21 : Nat, jr Z v0 3 = some b21 → (vp_in v1 24 ∧ (∀ I23 : jI, I23 = jpI I b21 v1.toNatClampNeg v3 → Q v4 Z I23 L)))) ∧ (¬ ((I v0 8) ≤ v5) → (f_X12_findClimb v0 v5 Z I L (fun r29 Z25 I26 L27 => ((¬ r29 = 0 → (∃ m47 : Nat, f_X12_paidTo_L47 (f_X12_paidTo_L20 Q n) Q m47 v0 v1 v3 v4 v5 (-1 : Int32) (0 : Int32) Z25 I26 L27)) ∧ (r29 = 0 → f_X12_paidTo_b124 (f_X12_paidTo_L20 Q n) Q v0 v1 v3 v4 v5 Z25 I26 L27))))))
set_option maxHeartbeats 4000000 in
set_option maxRecDepth 100000 in
theorem m_X12_paidTo_L20 {G : jG} {Z0 : jZ} {Q : Int32 → jZ → jI → jL → Prop} (E : jE G cX12_paidTo RX12 w_X12_paidTo 9 (some .int) { frames := 5, cells := 0, slots := 0, locals := 124 } (xrtI Z0 Q))  : ∀ (n : Nat) (v0 : Nat) (v1 : Int32) (v3 : Int32) (v4 : Int32) (v5 : Int32) (Z : jZ) (I : jI) (L : jL), SH Z → jext Z0 Z → jk Z v0 12 → f_X12_paidTo_L20  Q n v0 v1 v3 v4 v5 Z I L → jJ G 9 20 [(0, .ref v0), (1, .int v1), (3, .int v3), (4, .int v4), (5, .int v5)] [] Z I L 0 0 := by
  intro n
  induction n with
  | zero => intro v0 v1 v3 v4 v5 Z I L _ _ _ h; exact h.elim
  | succ n ih =>
    intro v0 v1 v3 v4 v5 Z I L hZ hx kv0 h
    have h : (((I v0 8) ≤ v5 → (∀ b21 : Nat, jr Z v0 3 = some b21 → (vp_in v1 24 ∧ (∀ I23 : jI, I23 = jpI I b21 v1.toNatClampNeg v3 → Q v4 Z I23 L)))) ∧ (¬ ((I v0 8) ≤ v5) → (f_X12_findClimb v0 v5 Z I L (fun r29 Z25 I26 L27 => ((¬ r29 = 0 → (∃ m47 : Nat, f_X12_paidTo_L47 (f_X12_paidTo_L20 Q n) Q m47 v0 v1 v3 v4 v5 (-1 : Int32) (0 : Int32) Z25 I26 L27)) ∧ (r29 = 0 → f_X12_paidTo_b124 (f_X12_paidTo_L20 Q n) Q v0 v1 v3 v4 v5 Z25 I26 L27)))))) := h
    obtain ⟨K20, eK20⟩ : ∃ K : Nat → Int32 → Int32 → Int32 → Int32 → jZ → jI → jL → Prop, K = f_X12_paidTo_L20  Q n := ⟨_, rfl⟩
    have hK20 := ih
    clear eK20 K20
    generalize f_X12_paidTo_L20  Q n = K20 at hK20 h
    refine j_iload E dX12_paidTo_20 4 rfl ?_
    refine j_aload_n E dX12_paidTo_22 0 rfl ?_
    refine j_geti E 12 8 rfl rfl (by decide) (by decide) (iw iT_12) rfl rfl (tw W_682) kv0 dX12_paidTo_23 ?_
    refine j_icmp_ge E 130 dX12_paidTo_26 (by decide) (fun c20 => ?_) (fun c20 => ?_)
    · have h := h.1 c20
      refine j_aload_n E dX12_paidTo_130 0 rfl ?_
      obtain ⟨b21, eb21, kb21, lb21⟩ := sh_f hZ kv0 (j := 3) (k := 14) (m := 24) rfl
      have h := h b21 eb21
      refine j_getr E 12 3 rfl rfl (by decide) (by decide) (iw iT_12) rfl rfl (tw W_727) kv0 eb21 dX12_paidTo_131 ?_
      refine j_iload_n E dX12_paidTo_134 1 rfl ?_
      refine j_iload_n E dX12_paidTo_135 2 rfl ?_
      obtain ⟨o22, h⟩ := h
      refine j_iast E kb21 (by rw [lb21]; exact o22) dX12_paidTo_136 ?_
      refine j_nmI (fun I23 eI23 => ?_)
      have h := h I23 eI23
      refine j_iload E dX12_paidTo_137 3 rfl ?_
      exact j_ireturn E ⟨hx, hZ, _, rfl, h⟩ (Nat.zero_le _) (Nat.zero_le _) dX12_paidTo_139
    · have h := h.2 c20
      refine j_aload_n E dX12_paidTo_29 0 rfl ?_
      refine j_iload E dX12_paidTo_30 4 rfl ?_
      refine j_callV E [.int v5] [] (c_X12_findClimb (gL G) (gD G) (gY G) v0 v5 Z I L _ hZ kv0 h) (gwV W_828 W_829 W_830 W_679 W_827) rfl ⟨rfl, fy_X12_findClimb⟩ ⟨by decide, by decide⟩ (c := 12) rfl (by decide) kv0 rfl rfl (Nat.le_of_ble_eq_true rfl) ⟨Nat.zero_le _, Nat.zero_le _⟩ dX12_paidTo_32 (fun v24 Z25 I26 L27 q28 => ?_)
      obtain ⟨yZ25, hZ25, r29, rfl, zr29, h⟩ := q28
      have hZ := hZ25
      have hx : jext Z0 Z25 := jext_trans hx yZ25
      have k30 := (yZ25 _ _ kv0).1
      show jJ G 9 35 [(0, .ref v0), (1, .int v1), (3, .int v3), (4, .int v4), (5, .int v5)] [.int r29] Z25 I26 L27 0 0
      refine j_if_ne E 41 dX12_paidTo_35 (by decide) (fun c31 => ?_) (fun c31 => ?_)
      · have h := h.1 c31
        refine j_iconst E (v := -1) dX12_paidTo_41 (by decide) ?_
        refine j_istore E 6 [(6, .int (-1 : Int32)), (0, .ref v0), (1, .int v1), (3, .int v3), (4, .int v4), (5, .int v5)] dX12_paidTo_42 (by decide) rfl ?_
        refine j_iconst E (v := 0) dX12_paidTo_44 (by decide) ?_
        refine j_istore E 7 [(7, .int (0 : Int32)), (6, .int (-1 : Int32)), (0, .ref v0), (1, .int v1), (3, .int v3), (4, .int v4), (5, .int v5)] dX12_paidTo_45 (by decide) rfl ?_
        obtain ⟨n32, h⟩ := h
        refine j_sub [2, 3, 4, 5, 6, 1, 0] rfl ?_
        exact m_X12_paidTo_L47 E K20 hK20 n32 v0 v1 v3 v4 v5 (-1 : Int32) (0 : Int32) Z25 I26 L27 hZ hx k30 h
      · have h := h.2 c31
        refine j_goto E 124 dX12_paidTo_38 (by decide) ?_
        refine j_sub [0, 1, 2, 3, 4] rfl ?_
        exact m_X12_paidTo_b124 E K20 hK20 v0 v1 v3 v4 v5 Z25 I26 L27 hZ hx k30 h
set_option maxRecDepth 100000 in
def f_X12_paidTo (v0 : Nat) (v1 : Int32) (v2 : Int32) (Z : jZ) (I : jI) (L : jL) (Q : Int32 → jZ → jI → jL → Prop) : Prop := (∀ b33 : Nat, jr Z v0 3 = some b33 → (vp_in v1 24 ∧ (∀ x35 : Int32, x35 = (I b33 v1.toNatClampNeg) → (∀ b36 : Nat, jr Z v0 3 = some b36 → (vp_in v1 24 ∧ (∀ I38 : jI, I38 = jpI I b36 v1.toNatClampNeg v2 → (∃ m20 : Nat, f_X12_paidTo_L20  Q m20 v0 v1 x35 (0 : Int32) (0 : Int32) Z I38 L)))))))
set_option maxHeartbeats 4000000 in
set_option maxRecDepth 100000 in
theorem c_X12_paidTo (l : Launch) (D : va_G) (cy : jC) (v0 : Nat) (v1 : Int32) (v2 : Int32) (Z : jZ) (I : jI) (L : jL) (Q : Int32 → jZ → jI → jL → Prop) (hZ : SH Z) (kv0 : jk Z v0 12) (h : f_X12_paidTo v0 v1 v2 Z I L Q) : jCt l yX12_paidTo w_X12_paidTo { frames := 5, cells := 0, slots := 0, locals := 124 } D cy [.ref v0, .int v1, .int v2] Z I L (xrtI Z Q) := by
  refine jCt_of (cc := cX12_paidTo) (maxL := 9) (ret := (some .int)) (by decide +kernel) rfl (Nat.le_of_ble_eq_true rfl) ?_
  intro G eD eY eL E
  subst eD; subst eY; subst eL
  have E : jE G cX12_paidTo RX12 w_X12_paidTo 9 (some .int) { frames := 5, cells := 0, slots := 0, locals := 124 } (xrtI Z Q) := E
  have hx : jext Z Z := jext_rfl
  show jJ G 9 0 [(0, .ref v0), (1, .int v1), (2, .int v2)] [] Z I L 0 0
  refine j_aload_n E dX12_paidTo_0 0 rfl ?_
  obtain ⟨b33, eb33, kb33, lb33⟩ := sh_f hZ kv0 (j := 3) (k := 14) (m := 24) rfl
  have h := h b33 eb33
  refine j_getr E 12 3 rfl rfl (by decide) (by decide) (iw iT_12) rfl rfl (tw W_727) kv0 eb33 dX12_paidTo_1 ?_
  refine j_iload_n E dX12_paidTo_4 1 rfl ?_
  obtain ⟨o34, h⟩ := h
  refine j_iald E kb33 (by rw [lb33]; exact o34) dX12_paidTo_5 ?_
  refine j_topi (fun x35 ex35 => ?_)
  have h := h x35 ex35
  refine j_istore_n E 3 [(3, .int x35), (0, .ref v0), (1, .int v1), (2, .int v2)] dX12_paidTo_6 rfl (by decide) rfl ?_
  refine j_aload_n E dX12_paidTo_7 1 rfl ?_
  obtain ⟨b36, eb36, kb36, lb36⟩ := sh_f hZ kv0 (j := 3) (k := 14) (m := 24) rfl
  have h := h b36 eb36
  refine j_getr E 12 3 rfl rfl (by decide) (by decide) (iw iT_12) rfl rfl (tw W_727) kv0 eb36 dX12_paidTo_8 ?_
  refine j_iload_n E dX12_paidTo_11 2 rfl ?_
  refine j_iload_n E dX12_paidTo_12 3 rfl ?_
  obtain ⟨o37, h⟩ := h
  refine j_iast E kb36 (by rw [lb36]; exact o37) dX12_paidTo_13 ?_
  refine j_nmI (fun I38 eI38 => ?_)
  have h := h I38 eI38
  refine j_iconst E (v := 0) dX12_paidTo_14 (by decide) ?_
  refine j_istore E 4 [(4, .int (0 : Int32)), (3, .int x35), (0, .ref v0), (1, .int v1), (2, .int v2)] dX12_paidTo_15 (by decide) rfl ?_
  refine j_iconst E (v := 0) dX12_paidTo_17 (by decide) ?_
  refine j_istore E 5 [(5, .int (0 : Int32)), (4, .int (0 : Int32)), (3, .int x35), (0, .ref v0), (1, .int v1), (2, .int v2)] dX12_paidTo_18 (by decide) rfl ?_
  obtain ⟨n39, h⟩ := h
  refine j_sub [3, 4, 2, 1, 0] rfl ?_
  exact m_X12_paidTo_L20 E  n39 v0 v1 x35 (0 : Int32) (0 : Int32) Z I38 L hZ hx kv0 h
set_option maxRecDepth 100000 in
def f_X12_would (v0 : Nat) (v1 : Int32) (v2 : Int32) (Z : jZ) (I : jI) (L : jL) (Q : Int32 → jZ → jI → jL → Prop) : Prop := (∀ I1 : jI, I1 = jpI I v0 22 (0 : Int32) → (f_X12_isStep v0 v1 Z I1 L (fun r7 I4 L5 => ((r7 = 0 → Q (-1 : Int32) Z I4 L5) ∧ (¬ (r7 = 0) → (f_X12_in v2 (0 : Int32) (20 : Int32) Z I4 L5 (fun r14 I11 L12 => ((r14 = 0 → Q (-1 : Int32) Z I11 L12) ∧ (¬ (r14 = 0) → (f_X12_paidTo v0 v1 v2 Z I11 L12 (fun r21 Z17 I18 L19 => Q r21 Z17 I18 L19)))))))))))
set_option maxHeartbeats 4000000 in
set_option maxRecDepth 100000 in
theorem c_X12_would (l : Launch) (D : va_G) (cy : jC) (v0 : Nat) (v1 : Int32) (v2 : Int32) (Z : jZ) (I : jI) (L : jL) (Q : Int32 → jZ → jI → jL → Prop) (hZ : SH Z) (kv0 : jk Z v0 12) (h : f_X12_would v0 v1 v2 Z I L Q) : jCt l yX12_would w_X12_would { frames := 6, cells := 0, slots := 0, locals := 152 } D cy [.ref v0, .int v1, .int v2] Z I L (xrtI Z Q) := by
  refine jCt_of (cc := cX12_would) (maxL := 3) (ret := (some .int)) (by decide +kernel) rfl (Nat.le_of_ble_eq_true rfl) ?_
  intro G eD eY eL E
  subst eD; subst eY; subst eL
  have E : jE G cX12_would RX12 w_X12_would 3 (some .int) { frames := 6, cells := 0, slots := 0, locals := 152 } (xrtI Z Q) := E
  have hx : jext Z Z := jext_rfl
  show jJ G 3 0 [(0, .ref v0), (1, .int v1), (2, .int v2)] [] Z I L 0 0
  refine j_aload_n E dX12_would_0 0 rfl ?_
  refine j_iconst E (v := 0) dX12_would_1 (by decide) ?_
  refine j_puti E 12 22 rfl rfl (by decide) (by decide) (iw iT_12) tyX12_ok nmX12 rfl rfl (tw W_674) rfl rfl rfl kv0 dX12_would_2 ?_
  refine j_nmI (fun I1 eI1 => ?_)
  have h := h I1 eI1
  refine j_aload_n E dX12_would_5 0 rfl ?_
  refine j_iload_n E dX12_would_6 1 rfl ?_
  refine j_callV E [.int v1] [] (c_X12_isStep (gL G) (gD G) (gY G) v0 v1 Z I1 L _ hZ kv0 h) (gwV W_752 W_753 W_754 W_679 W_751) rfl ⟨rfl, fy_X12_isStep⟩ ⟨by decide, by decide⟩ (c := 12) rfl (by decide) kv0 rfl rfl (Nat.le_of_ble_eq_true rfl) ⟨Nat.zero_le _, Nat.zero_le _⟩ dX12_would_7 (fun v2 Z3 I4 L5 q6 => ?_)
  obtain ⟨rfl, r7, rfl, zr7, h⟩ := q6
  show jJ G 3 10 [(0, .ref v0), (1, .int v1), (2, .int v2)] [.int r7] Z I4 L5 0 0
  refine j_if_eq E 32 dX12_would_10 (by decide) (fun c8 => ?_) (fun c8 => ?_)
  · have h := h.1 c8
    refine j_iconst E (v := -1) dX12_would_32 (by decide) ?_
    exact j_ireturn E ⟨hx, hZ, _, rfl, h⟩ (Nat.zero_le _) (Nat.zero_le _) dX12_would_33
  · have h := h.2 c8
    refine j_iload_n E dX12_would_13 2 rfl ?_
    refine j_iconst E (v := 0) dX12_would_14 (by decide) ?_
    refine j_bipush E (v := 20) dX12_would_15 (by decide) ?_
    refine j_callS E [.int v2, .int (0 : Int32), .int (20 : Int32)] [] (c_X12_in (gL G) (gD G) (gY G) v2 (0 : Int32) (20 : Int32) Z I4 L5 _ hZ  h) (gwS W_680 W_681 W_679 W_678) rfl fy_X12_in ⟨by decide, by decide⟩ rfl rfl (Nat.le_of_ble_eq_true rfl) ⟨Nat.zero_le _, Nat.zero_le _⟩ dX12_would_17 (fun v9 Z10 I11 L12 q13 => ?_)
    obtain ⟨rfl, r14, rfl, zr14, h⟩ := q13
    show jJ G 3 20 [(0, .ref v0), (1, .int v1), (2, .int v2)] [.int r14] Z I11 L12 0 0
    refine j_if_eq E 32 dX12_would_20 (by decide) (fun c15 => ?_) (fun c15 => ?_)
    · have h := h.1 c15
      refine j_iconst E (v := -1) dX12_would_32 (by decide) ?_
      exact j_ireturn E ⟨hx, hZ, _, rfl, h⟩ (Nat.zero_le _) (Nat.zero_le _) dX12_would_33
    · have h := h.2 c15
      refine j_aload_n E dX12_would_23 0 rfl ?_
      refine j_iload_n E dX12_would_24 1 rfl ?_
      refine j_iload_n E dX12_would_25 2 rfl ?_
      refine j_callV E [.int v1, .int v2] [] (c_X12_paidTo (gL G) (gD G) (gY G) v0 v1 v2 Z I11 L12 _ hZ kv0 h) (gwV W_865 W_866 W_867 W_679 W_864) rfl ⟨rfl, fy_X12_paidTo⟩ ⟨by decide, by decide⟩ (c := 12) rfl (by decide) kv0 rfl rfl (Nat.le_of_ble_eq_true rfl) ⟨Nat.zero_le _, Nat.zero_le _⟩ dX12_would_26 (fun v16 Z17 I18 L19 q20 => ?_)
      obtain ⟨yZ17, hZ17, r21, rfl, h⟩ := q20
      have hZ := hZ17
      have hx : jext Z Z17 := jext_trans hx yZ17
      have k22 := (yZ17 _ _ kv0).1
      show jJ G 3 29 [(0, .ref v0), (1, .int v1), (2, .int v2)] [.int r21] Z17 I18 L19 0 0
      refine j_goto E 33 dX12_would_29 (by decide) ?_
      exact j_ireturn E ⟨hx, hZ, _, rfl, h⟩ (Nat.zero_le _) (Nat.zero_le _) dX12_would_33
set_option maxRecDepth 100000 in
def f_X12_findBest_b48 (K14 : Nat → Int32 → Int32 → Int32 → jZ → jI → jL → Prop) (Q : Int32 → jZ → jI → jL → Prop) (v0 : Nat) (v1 : Int32) (v2 : Int32) (v3 : Int32) (Z : jZ) (I : jI) (L : jL) : Prop := (∀ x1 : Int32, x1 = v3 + 1 → K14 v0 v1 v2 x1 Z I L)
set_option maxHeartbeats 4000000 in
set_option maxRecDepth 100000 in
theorem m_X12_findBest_b48 {G : jG} {Z0 : jZ} {Q : Int32 → jZ → jI → jL → Prop} (E : jE G cX12_findBest RX12 w_X12_findBest 5 (some .int) { frames := 6, cells := 0, slots := 0, locals := 152 } (xrtI Z0 Q)) (K14 : Nat → Int32 → Int32 → Int32 → jZ → jI → jL → Prop) (hK14 : ∀ (v0 : Nat) (v1 : Int32) (v2 : Int32) (v3 : Int32) (Z : jZ) (I : jI) (L : jL), SH Z → jext Z0 Z → jk Z v0 12 → K14 v0 v1 v2 v3 Z I L → jJ G 5 14 [(0, .ref v0), (1, .int v1), (2, .int v2), (3, .int v3)] [] Z I L 0 0) (v0 : Nat) (v1 : Int32) (v2 : Int32) (v3 : Int32) (Z : jZ) (I : jI) (L : jL) (hZ : SH Z) (hx : jext Z0 Z) (kv0 : jk Z v0 12) (h : f_X12_findBest_b48 K14 Q v0 v1 v2 v3 Z I L) : jJ G 5 48 [(0, .ref v0), (1, .int v1), (2, .int v2), (3, .int v3)] [] Z I L 0 0 := by
  obtain ⟨x1, ex1⟩ : ∃ y : Int32, y = v3 + 1 := ⟨_, rfl⟩
  have h := h x1 ex1
  refine j_iinc E x1 [(3, .int x1), (0, .ref v0), (1, .int v1), (2, .int v2)] dX12_findBest_48 3 rfl (by rw [ex1]; rfl) (by decide) rfl ?_
  refine j_goto E 14 dX12_findBest_51 (by decide) ?_
  refine j_sub [1, 2, 3, 0] rfl ?_
  exact hK14 v0 v1 v2 x1 Z I L hZ hx kv0 h
set_option maxRecDepth 100000 in
def f_X12_findBest_L14  (Q : Int32 → jZ → jI → jL → Prop) : Nat → Nat → Int32 → Int32 → Int32 → jZ → jI → jL → Prop
  | 0 => fun _ _ _ _ _ _ _ => False
  | n + 1 => fun v0 v1 v2 v3 Z I L => (((20 : Int32) < v3 → Q v2 Z I L) ∧ (¬ ((20 : Int32) < v3) → (f_X12_paidTo v0 v1 v3 Z I L (fun r8 Z4 I5 L6 => (((I5 v0 51) < r8 → (∀ I11 : jI, I11 = jpI I5 v0 51 r8 → f_X12_findBest_b48 (f_X12_findBest_L14 Q n) Q v0 v1 v3 v3 Z4 I11 L6)) ∧ (¬ ((I5 v0 51) < r8) → f_X12_findBest_b48 (f_X12_findBest_L14 Q n) Q v0 v1 v2 v3 Z4 I5 L6))))))
set_option maxHeartbeats 4000000 in
set_option maxRecDepth 100000 in
theorem m_X12_findBest_L14 {G : jG} {Z0 : jZ} {Q : Int32 → jZ → jI → jL → Prop} (E : jE G cX12_findBest RX12 w_X12_findBest 5 (some .int) { frames := 6, cells := 0, slots := 0, locals := 152 } (xrtI Z0 Q))  : ∀ (n : Nat) (v0 : Nat) (v1 : Int32) (v2 : Int32) (v3 : Int32) (Z : jZ) (I : jI) (L : jL), SH Z → jext Z0 Z → jk Z v0 12 → f_X12_findBest_L14  Q n v0 v1 v2 v3 Z I L → jJ G 5 14 [(0, .ref v0), (1, .int v1), (2, .int v2), (3, .int v3)] [] Z I L 0 0 := by
  intro n
  induction n with
  | zero => intro v0 v1 v2 v3 Z I L _ _ _ h; exact h.elim
  | succ n ih =>
    intro v0 v1 v2 v3 Z I L hZ hx kv0 h
    have h : (((20 : Int32) < v3 → Q v2 Z I L) ∧ (¬ ((20 : Int32) < v3) → (f_X12_paidTo v0 v1 v3 Z I L (fun r8 Z4 I5 L6 => (((I5 v0 51) < r8 → (∀ I11 : jI, I11 = jpI I5 v0 51 r8 → f_X12_findBest_b48 (f_X12_findBest_L14 Q n) Q v0 v1 v3 v3 Z4 I11 L6)) ∧ (¬ ((I5 v0 51) < r8) → f_X12_findBest_b48 (f_X12_findBest_L14 Q n) Q v0 v1 v2 v3 Z4 I5 L6)))))) := h
    obtain ⟨K14, eK14⟩ : ∃ K : Nat → Int32 → Int32 → Int32 → jZ → jI → jL → Prop, K = f_X12_findBest_L14  Q n := ⟨_, rfl⟩
    have hK14 := ih
    clear eK14 K14
    generalize f_X12_findBest_L14  Q n = K14 at hK14 h
    refine j_iload_n E dX12_findBest_14 3 rfl ?_
    refine j_bipush E (v := 20) dX12_findBest_15 (by decide) ?_
    refine j_icmp_gt E 54 dX12_findBest_17 (by decide) (fun c2 => ?_) (fun c2 => ?_)
    · have h := h.1 c2
      refine j_iload_n E dX12_findBest_54 2 rfl ?_
      exact j_ireturn E ⟨hx, hZ, _, rfl, h⟩ (Nat.zero_le _) (Nat.zero_le _) dX12_findBest_55
    · have h := h.2 c2
      refine j_aload_n E dX12_findBest_20 0 rfl ?_
      refine j_iload_n E dX12_findBest_21 1 rfl ?_
      refine j_iload_n E dX12_findBest_22 3 rfl ?_
      refine j_callV E [.int v1, .int v3] [] (c_X12_paidTo (gL G) (gD G) (gY G) v0 v1 v3 Z I L _ hZ kv0 h) (gwV W_865 W_866 W_867 W_679 W_864) rfl ⟨rfl, fy_X12_paidTo⟩ ⟨by decide, by decide⟩ (c := 12) rfl (by decide) kv0 rfl rfl (Nat.le_of_ble_eq_true rfl) ⟨Nat.zero_le _, Nat.zero_le _⟩ dX12_findBest_23 (fun v3 Z4 I5 L6 q7 => ?_)
      obtain ⟨yZ4, hZ4, r8, rfl, h⟩ := q7
      have hZ := hZ4
      have hx : jext Z0 Z4 := jext_trans hx yZ4
      have k9 := (yZ4 _ _ kv0).1
      show jJ G 5 26 [(0, .ref v0), (1, .int v1), (2, .int v2), (3, .int v3)] [.int r8] Z4 I5 L6 0 0
      refine j_istore E 4 [(4, .int r8), (0, .ref v0), (1, .int v1), (2, .int v2), (3, .int v3)] dX12_findBest_26 (by decide) rfl ?_
      refine j_iload E dX12_findBest_28 0 rfl ?_
      refine j_aload_n E dX12_findBest_30 1 rfl ?_
      refine j_geti E 12 51 rfl rfl (by decide) (by decide) (iw iT_12) rfl rfl (tw W_868) k9 dX12_findBest_31 ?_
      refine j_icmp_gt E 40 dX12_findBest_34 (by decide) (fun c10 => ?_) (fun c10 => ?_)
      · have h := h.1 c10
        refine j_iload_n E dX12_findBest_40 4 rfl ?_
        refine j_istore_n E 2 [(2, .int v3), (4, .int r8), (0, .ref v0), (1, .int v1), (3, .int v3)] dX12_findBest_41 rfl (by decide) rfl ?_
        refine j_aload_n E dX12_findBest_42 2 rfl ?_
        refine j_iload E dX12_findBest_43 1 rfl ?_
        refine j_puti E 12 51 rfl rfl (by decide) (by decide) (iw iT_12) tyX12_ok nmX12 rfl rfl (tw W_868) rfl rfl rfl k9 dX12_findBest_45 ?_
        refine j_nmI (fun I11 eI11 => ?_)
        have h := h I11 eI11
        refine j_sub [2, 3, 0, 4] rfl ?_
        exact m_X12_findBest_b48 E K14 hK14 v0 v1 v3 v3 Z4 I11 L6 hZ hx k9 h
      · have h := h.2 c10
        refine j_goto E 48 dX12_findBest_37 (by decide) ?_
        refine j_sub [1, 2, 3, 4] rfl ?_
        exact m_X12_findBest_b48 E K14 hK14 v0 v1 v2 v3 Z4 I5 L6 hZ hx k9 h
set_option maxRecDepth 100000 in
def f_X12_findBest (v0 : Nat) (v1 : Int32) (Z : jZ) (I : jI) (L : jL) (Q : Int32 → jZ → jI → jL → Prop) : Prop := (f_X12_paidTo v0 v1 (0 : Int32) Z I L (fun r17 Z13 I14 L15 => (∀ I19 : jI, I19 = jpI I14 v0 51 r17 → (∃ m14 : Nat, f_X12_findBest_L14  Q m14 v0 v1 (0 : Int32) (1 : Int32) Z13 I19 L15))))
set_option maxHeartbeats 4000000 in
set_option maxRecDepth 100000 in
theorem c_X12_findBest (l : Launch) (D : va_G) (cy : jC) (v0 : Nat) (v1 : Int32) (Z : jZ) (I : jI) (L : jL) (Q : Int32 → jZ → jI → jL → Prop) (hZ : SH Z) (kv0 : jk Z v0 12) (h : f_X12_findBest v0 v1 Z I L Q) : jCt l yX12_findBest w_X12_findBest { frames := 6, cells := 0, slots := 0, locals := 152 } D cy [.ref v0, .int v1] Z I L (xrtI Z Q) := by
  refine jCt_of (cc := cX12_findBest) (maxL := 5) (ret := (some .int)) (by decide +kernel) rfl (Nat.le_of_ble_eq_true rfl) ?_
  intro G eD eY eL E
  subst eD; subst eY; subst eL
  have E : jE G cX12_findBest RX12 w_X12_findBest 5 (some .int) { frames := 6, cells := 0, slots := 0, locals := 152 } (xrtI Z Q) := E
  have hx : jext Z Z := jext_rfl
  show jJ G 5 0 [(0, .ref v0), (1, .int v1)] [] Z I L 0 0
  refine j_iconst E (v := 0) dX12_findBest_0 (by decide) ?_
  refine j_istore_n E 2 [(2, .int (0 : Int32)), (0, .ref v0), (1, .int v1)] dX12_findBest_1 rfl (by decide) rfl ?_
  refine j_aload_n E dX12_findBest_2 1 rfl ?_
  refine j_aload_n E dX12_findBest_3 1 rfl ?_
  refine j_iload_n E dX12_findBest_4 2 rfl ?_
  refine j_iconst E (v := 0) dX12_findBest_5 (by decide) ?_
  refine j_callV E [.int v1, .int (0 : Int32)] [.ref v0] (c_X12_paidTo (gL G) (gD G) (gY G) v0 v1 (0 : Int32) Z I L _ hZ kv0 h) (gwV W_865 W_866 W_867 W_679 W_864) rfl ⟨rfl, fy_X12_paidTo⟩ ⟨by decide, by decide⟩ (c := 12) rfl (by decide) kv0 rfl rfl (Nat.le_of_ble_eq_true rfl) ⟨Nat.zero_le _, Nat.zero_le _⟩ dX12_findBest_6 (fun v12 Z13 I14 L15 q16 => ?_)
  obtain ⟨yZ13, hZ13, r17, rfl, h⟩ := q16
  have hZ := hZ13
  have hx : jext Z Z13 := jext_trans hx yZ13
  have k18 := (yZ13 _ _ kv0).1
  show jJ G 5 9 [(2, .int (0 : Int32)), (0, .ref v0), (1, .int v1)] [.int r17, .ref v0] Z13 I14 L15 0 0
  refine j_puti E 12 51 rfl rfl (by decide) (by decide) (iw iT_12) tyX12_ok nmX12 rfl rfl (tw W_868) rfl rfl rfl k18 dX12_findBest_9 ?_
  refine j_nmI (fun I19 eI19 => ?_)
  have h := h I19 eI19
  refine j_iconst E (v := 1) dX12_findBest_12 (by decide) ?_
  refine j_istore_n E 3 [(3, .int (1 : Int32)), (2, .int (0 : Int32)), (0, .ref v0), (1, .int v1)] dX12_findBest_13 rfl (by decide) rfl ?_
  obtain ⟨n20, h⟩ := h
  refine j_sub [2, 3, 1, 0] rfl ?_
  exact m_X12_findBest_L14 E  n20 v0 v1 (0 : Int32) (1 : Int32) Z13 I19 L15 hZ hx k18 h
set_option maxRecDepth 100000 in
def f_X12_best (v0 : Nat) (v1 : Int32) (Z : jZ) (I : jI) (L : jL) (Q : Int32 → jZ → jI → jL → Prop) : Prop := (∀ I1 : jI, I1 = jpI I v0 22 (0 : Int32) → (f_X12_isStep v0 v1 Z I1 L (fun r7 I4 L5 => ((¬ r7 = 0 → (f_X12_findBest v0 v1 Z I4 L5 (fun r14 Z10 I11 L12 => (∀ I16 : jI, I16 = jpI I11 v0 21 (0 : Int32) → (f_X12_tell v0 ((I16 v0 51).toInt64) Z10 I16 L12 (fun I19 L20 => Q r14 Z10 I19 L20)))))) ∧ (r7 = 0 → Q (-1 : Int32) Z I4 L5)))))
set_option maxHeartbeats 4000000 in
set_option maxRecDepth 100000 in
theorem c_X12_best (l : Launch) (D : va_G) (cy : jC) (v0 : Nat) (v1 : Int32) (Z : jZ) (I : jI) (L : jL) (Q : Int32 → jZ → jI → jL → Prop) (hZ : SH Z) (kv0 : jk Z v0 12) (h : f_X12_best v0 v1 Z I L Q) : jCt l yX12_best w_X12_best { frames := 7, cells := 0, slots := 0, locals := 176 } D cy [.ref v0, .int v1] Z I L (xrtI Z Q) := by
  refine jCt_of (cc := cX12_best) (maxL := 3) (ret := (some .int)) (by decide +kernel) rfl (Nat.le_of_ble_eq_true rfl) ?_
  intro G eD eY eL E
  subst eD; subst eY; subst eL
  have E : jE G cX12_best RX12 w_X12_best 3 (some .int) { frames := 7, cells := 0, slots := 0, locals := 176 } (xrtI Z Q) := E
  have hx : jext Z Z := jext_rfl
  show jJ G 3 0 [(0, .ref v0), (1, .int v1)] [] Z I L 0 0
  refine j_aload_n E dX12_best_0 0 rfl ?_
  refine j_iconst E (v := 0) dX12_best_1 (by decide) ?_
  refine j_puti E 12 22 rfl rfl (by decide) (by decide) (iw iT_12) tyX12_ok nmX12 rfl rfl (tw W_674) rfl rfl rfl kv0 dX12_best_2 ?_
  refine j_nmI (fun I1 eI1 => ?_)
  have h := h I1 eI1
  refine j_aload_n E dX12_best_5 0 rfl ?_
  refine j_iload_n E dX12_best_6 1 rfl ?_
  refine j_callV E [.int v1] [] (c_X12_isStep (gL G) (gD G) (gY G) v0 v1 Z I1 L _ hZ kv0 h) (gwV W_752 W_753 W_754 W_679 W_751) rfl ⟨rfl, fy_X12_isStep⟩ ⟨by decide, by decide⟩ (c := 12) rfl (by decide) kv0 rfl rfl (Nat.le_of_ble_eq_true rfl) ⟨Nat.zero_le _, Nat.zero_le _⟩ dX12_best_7 (fun v2 Z3 I4 L5 q6 => ?_)
  obtain ⟨rfl, r7, rfl, zr7, h⟩ := q6
  show jJ G 3 10 [(0, .ref v0), (1, .int v1)] [.int r7] Z I4 L5 0 0
  refine j_if_ne E 15 dX12_best_10 (by decide) (fun c8 => ?_) (fun c8 => ?_)
  · have h := h.1 c8
    refine j_aload_n E dX12_best_15 0 rfl ?_
    refine j_iload_n E dX12_best_16 1 rfl ?_
    refine j_callV E [.int v1] [] (c_X12_findBest (gL G) (gD G) (gY G) v0 v1 Z I4 L5 _ hZ kv0 h) (gwV W_870 W_871 W_872 W_679 W_869) rfl ⟨rfl, fy_X12_findBest⟩ ⟨by decide, by decide⟩ (c := 12) rfl (by decide) kv0 rfl rfl (Nat.le_of_ble_eq_true rfl) ⟨Nat.zero_le _, Nat.zero_le _⟩ dX12_best_17 (fun v9 Z10 I11 L12 q13 => ?_)
    obtain ⟨yZ10, hZ10, r14, rfl, h⟩ := q13
    have hZ := hZ10
    have hx : jext Z Z10 := jext_trans hx yZ10
    have k15 := (yZ10 _ _ kv0).1
    show jJ G 3 20 [(0, .ref v0), (1, .int v1)] [.int r14] Z10 I11 L12 0 0
    refine j_istore_n E 2 [(2, .int r14), (0, .ref v0), (1, .int v1)] dX12_best_20 rfl (by decide) rfl ?_
    refine j_aload_n E dX12_best_21 1 rfl ?_
    refine j_iconst E (v := 0) dX12_best_22 (by decide) ?_
    refine j_puti E 12 21 rfl rfl (by decide) (by decide) (iw iT_12) tyX12_ok nmX12 rfl rfl (tw W_676) rfl rfl rfl k15 dX12_best_23 ?_
    refine j_nmI (fun I16 eI16 => ?_)
    have h := h I16 eI16
    refine j_aload_n E dX12_best_26 1 rfl ?_
    refine j_aload_n E dX12_best_27 1 rfl ?_
    refine j_geti E 12 51 rfl rfl (by decide) (by decide) (iw iT_12) rfl rfl (tw W_868) k15 dX12_best_28 ?_
    refine j_i2l E dX12_best_31 ?_
    refine j_callV E [.long ((I16 v0 51).toInt64)] [] (c_X12_tell (gL G) (gD G) (gY G) v0 ((I16 v0 51).toInt64) Z10 I16 L12 _ hZ k15 h) (gwV W_784 W_785 W_786 W_679 W_783) rfl ⟨rfl, fy_X12_tell⟩ ⟨by decide, by decide⟩ (c := 12) rfl (by decide) k15 rfl rfl (Nat.le_of_ble_eq_true rfl) ⟨Nat.zero_le _, Nat.zero_le _⟩ dX12_best_32 (fun v17 Z18 I19 L20 q21 => ?_)
    obtain ⟨rfl, rfl, h⟩ := q21
    show jJ G 3 35 [(2, .int r14), (0, .ref v0), (1, .int v1)] [] Z10 I19 L20 0 0
    refine j_iload_n E dX12_best_35 0 rfl ?_
    exact j_ireturn E ⟨hx, hZ, _, rfl, h⟩ (Nat.zero_le _) (Nat.zero_le _) dX12_best_36
  · have h := h.2 c8
    refine j_iconst E (v := -1) dX12_best_13 (by decide) ?_
    exact j_ireturn E ⟨hx, hZ, _, rfl, h⟩ (Nat.zero_le _) (Nat.zero_le _) dX12_best_14
