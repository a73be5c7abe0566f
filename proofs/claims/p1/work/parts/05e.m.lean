set_option maxRecDepth 100000 in
def f_X11_sheet_b99 (K56 : Nat → Int32 → Int32 → Int32 → Int32 → Int32 → Int32 → jI → jL → Prop) (Z : jZ) (Q : Int32 → jI → jL → Prop) (v0 : Nat) (v1 : Int32) (v3 : Int32) (v4 : Int32) (v5 : Int32) (v6 : Int32) (v7 : Int32) (s0 : Nat) (s1 : Int32) (s2 : Int32) (I : jI) (L : jL) : Prop := (vp_in s1 (jlen Z s0) ∧ (∀ I2 : jI, I2 = jpI I s0 s1.toNatClampNeg s2 → (∀ x3 : Int32, x3 = v7 + 1 → K56 v0 v1 v3 v4 v5 v6 x3 I2 L)))
set_option maxHeartbeats 4000000 in
set_option maxRecDepth 100000 in
theorem m_X11_sheet_b99 {G : jG} {Z : jZ} {Q : Int32 → jI → jL → Prop} (E : jE G cX11_sheet RX11 w_X11_sheet 8 (some .int) { frames := 2, cells := 0, slots := 0, locals := 45 } (rtI Z Q)) (hZ : SH Z) (K56 : Nat → Int32 → Int32 → Int32 → Int32 → Int32 → Int32 → jI → jL → Prop) (hK56 : ∀ (v0 : Nat) (v1 : Int32) (v3 : Int32) (v4 : Int32) (v5 : Int32) (v6 : Int32) (v7 : Int32) (I : jI) (L : jL), jk Z v0 11 → K56 v0 v1 v3 v4 v5 v6 v7 I L → jJ G 8 56 [(0, .ref v0), (1, .int v1), (3, .int v3), (4, .int v4), (5, .int v5), (6, .int v6), (7, .int v7)] [] Z I L 0 0) (v0 : Nat) (v1 : Int32) (v3 : Int32) (v4 : Int32) (v5 : Int32) (v6 : Int32) (v7 : Int32) (s0 : Nat) (s1 : Int32) (s2 : Int32) (I : jI) (L : jL) (kv0 : jk Z v0 11) (ks0 : jk Z s0 14) (h : f_X11_sheet_b99 K56 Z Q v0 v1 v3 v4 v5 v6 v7 s0 s1 s2 I L) : jJ G 8 99 [(0, .ref v0), (1, .int v1), (3, .int v3), (4, .int v4), (5, .int v5), (6, .int v6), (7, .int v7)] [.int s2, .int s1, .ref s0] Z I L 0 0 := by
  obtain ⟨o1, h⟩ := h
  refine j_iast E ks0 o1 dX11_sheet_99 ?_
  refine j_nmI (fun I2 eI2 => ?_)
  have h := h I2 eI2
  obtain ⟨x3, ex3⟩ : ∃ y : Int32, y = v7 + 1 := ⟨_, rfl⟩
  have h := h x3 ex3
  refine j_iinc E x3 [(7, .int x3), (0, .ref v0), (1, .int v1), (3, .int v3), (4, .int v4), (5, .int v5), (6, .int v6)] dX11_sheet_100 6 rfl (by rw [ex3]; rfl) (by decide) rfl ?_
  refine j_goto E 56 dX11_sheet_103 (by decide) ?_
  refine j_sub [1, 2, 3, 4, 5, 6, 0] rfl ?_
  exact hK56 v0 v1 v3 v4 v5 v6 x3 I2 L kv0 h
set_option maxRecDepth 100000 in
def f_X11_sheet_L56  (Z : jZ) (Q : Int32 → jI → jL → Prop) : Nat → Nat → Int32 → Int32 → Int32 → Int32 → Int32 → Int32 → jI → jL → Prop
  | 0 => fun _ _ _ _ _ _ _ _ _ => False
  | n + 1 => fun v0 v1 v3 v4 v5 v6 v7 I L => (∀ b4 : Nat, jr Z v0 2 = some b4 → (((I b4 9) ≤ v7 → ((v5 = 0 → (∀ b7 : Nat, jr Z v0 2 = some b7 → (f_X8_sumOfAsks b7 Z I L (fun r13 I10 L11 => Q r13 I10 L11)))) ∧ (¬ (v5 = 0) → Q (-3 : Int32) I L))) ∧ (¬ ((I b4 9) ≤ v7) → (∀ b14 : Nat, jr Z v0 2 = some b14 → (∀ b15 : Nat, jr Z b14 2 = some b15 → ((v6 ≤ v7 → f_X11_sheet_b99 (f_X11_sheet_L56 Z Q n) Z Q v0 v1 v3 v4 v5 v6 v7 b15 v7 (0 : Int32) I L) ∧ (¬ (v6 ≤ v7) → (f_X11_entryOf v1 (v3 + (v7 * v4)) Z I L (fun r22 I19 L20 => f_X11_sheet_b99 (f_X11_sheet_L56 Z Q n) Z Q v0 v1 v3 v4 v5 v6 v7 b15 v7 r22 I19 L20)))))))))
set_option maxHeartbeats 4000000 in
set_option maxRecDepth 100000 in
theorem m_X11_sheet_L56 {G : jG} {Z : jZ} {Q : Int32 → jI → jL → Prop} (E : jE G cX11_sheet RX11 w_X11_sheet 8 (some .int) { frames := 2, cells := 0, slots := 0, locals := 45 } (rtI Z Q)) (hZ : SH Z)  : ∀ (n : Nat) (v0 : Nat) (v1 : Int32) (v3 : Int32) (v4 : Int32) (v5 : Int32) (v6 : Int32) (v7 : Int32) (I : jI) (L : jL), jk Z v0 11 → f_X11_sheet_L56  Z Q n v0 v1 v3 v4 v5 v6 v7 I L → jJ G 8 56 [(0, .ref v0), (1, .int v1), (3, .int v3), (4, .int v4), (5, .int v5), (6, .int v6), (7, .int v7)] [] Z I L 0 0 := by
  intro n
  induction n with
  | zero => intro v0 v1 v3 v4 v5 v6 v7 I L _ h; exact h.elim
  | succ n ih =>
    intro v0 v1 v3 v4 v5 v6 v7 I L kv0 h
    have h : (∀ b4 : Nat, jr Z v0 2 = some b4 → (((I b4 9) ≤ v7 → ((v5 = 0 → (∀ b7 : Nat, jr Z v0 2 = some b7 → (f_X8_sumOfAsks b7 Z I L (fun r13 I10 L11 => Q r13 I10 L11)))) ∧ (¬ (v5 = 0) → Q (-3 : Int32) I L))) ∧ (¬ ((I b4 9) ≤ v7) → (∀ b14 : Nat, jr Z v0 2 = some b14 → (∀ b15 : Nat, jr Z b14 2 = some b15 → ((v6 ≤ v7 → f_X11_sheet_b99 (f_X11_sheet_L56 Z Q n) Z Q v0 v1 v3 v4 v5 v6 v7 b15 v7 (0 : Int32) I L) ∧ (¬ (v6 ≤ v7) → (f_X11_entryOf v1 (v3 + (v7 * v4)) Z I L (fun r22 I19 L20 => f_X11_sheet_b99 (f_X11_sheet_L56 Z Q n) Z Q v0 v1 v3 v4 v5 v6 v7 b15 v7 r22 I19 L20))))))))) := h
    obtain ⟨K56, eK56⟩ : ∃ K : Nat → Int32 → Int32 → Int32 → Int32 → Int32 → Int32 → jI → jL → Prop, K = f_X11_sheet_L56  Z Q n := ⟨_, rfl⟩
    have hK56 := ih
    clear eK56 K56
    generalize f_X11_sheet_L56  Z Q n = K56 at hK56 h
    refine j_iload E dX11_sheet_56 6 rfl ?_
    refine j_aload_n E dX11_sheet_58 0 rfl ?_
    obtain ⟨b4, eb4, kb4⟩ := sh_o hZ kv0 (j := 2) (k := 8) rfl
    have h := h b4 eb4
    refine j_getr E 11 2 rfl rfl (by decide) (by decide) (iw iT_11) rfl rfl (tw W_438) kv0 eb4 dX11_sheet_59 ?_
    refine j_getiN E 8 9 rfl rfl (by decide) (by decide) (iw iT_8) rfl rfl (nw_8_9_X11_172) kb4 dX11_sheet_62 ?_
    refine j_icmp_ge E 106 dX11_sheet_65 (by decide) (fun c5 => ?_) (fun c5 => ?_)
    · have h := h.1 c5
      refine j_iload E dX11_sheet_106 4 rfl ?_
      refine j_if_eq E 116 dX11_sheet_108 (by decide) (fun c6 => ?_) (fun c6 => ?_)
      · have h := h.1 c6
        refine j_aload_n E dX11_sheet_116 0 rfl ?_
        obtain ⟨b7, eb7, kb7⟩ := sh_o hZ kv0 (j := 2) (k := 8) rfl
        have h := h b7 eb7
        refine j_getr E 11 2 rfl rfl (by decide) (by decide) (iw iT_11) rfl rfl (tw W_438) kv0 eb7 dX11_sheet_117 ?_
        refine j_callV E [] [] (c_X8_sumOfAsks (gL G) (gD G) (gY G) b7 Z I L _ hZ kb7 h) (gwV W_454 W_455 W_456 W_248 W_453) rfl ⟨rfl, fy_X8_sumOfAsks⟩ ⟨by decide, by decide⟩ (c := 8) rfl (by decide) kb7 rfl rfl (Nat.le_of_ble_eq_true rfl) ⟨Nat.zero_le _, Nat.zero_le _⟩ dX11_sheet_120 (fun v8 Z9 I10 L11 q12 => ?_)
        obtain ⟨rfl, r13, rfl, h⟩ := q12
        show jJ G 8 123 [(0, .ref v0), (1, .int v1), (3, .int v3), (4, .int v4), (5, .int v5), (6, .int v6), (7, .int v7)] [.int r13] Z I10 L11 0 0
        exact j_ireturn E ⟨rfl, _, rfl, h⟩ (Nat.zero_le _) (Nat.zero_le _) dX11_sheet_123
      · have h := h.2 c6
        refine j_bipush E (v := -3) dX11_sheet_111 (by decide) ?_
        refine j_goto E 123 dX11_sheet_113 (by decide) ?_
        exact j_ireturn E ⟨rfl, _, rfl, h⟩ (Nat.zero_le _) (Nat.zero_le _) dX11_sheet_123
    · have h := h.2 c5
      refine j_aload_n E dX11_sheet_68 0 rfl ?_
      obtain ⟨b14, eb14, kb14⟩ := sh_o hZ kv0 (j := 2) (k := 8) rfl
      have h := h b14 eb14
      refine j_getr E 11 2 rfl rfl (by decide) (by decide) (iw iT_11) rfl rfl (tw W_438) kv0 eb14 dX11_sheet_69 ?_
      obtain ⟨b15, eb15, kb15, lb15⟩ := sh_f hZ kb14 (j := 2) (k := 14) (m := 24) rfl
      have h := h b15 eb15
      refine j_getrN E 8 2 rfl rfl (by decide) (by decide) (iw iT_8) rfl rfl (nw_8_2_X11_154) kb14 eb15 dX11_sheet_72 ?_
      refine j_iload E dX11_sheet_75 6 rfl ?_
      refine j_iload E dX11_sheet_77 6 rfl ?_
      refine j_iload E dX11_sheet_79 5 rfl ?_
      refine j_icmp_ge E 98 dX11_sheet_81 (by decide) (fun c16 => ?_) (fun c16 => ?_)
      · have h := h.1 c16
        refine j_iconst E (v := 0) dX11_sheet_98 (by decide) ?_
        refine j_sub [0, 1, 2, 3, 4, 5, 6] rfl ?_
        exact m_X11_sheet_b99 E hZ K56 hK56 v0 v1 v3 v4 v5 v6 v7 b15 v7 (0 : Int32) I L kv0 kb15 h
      · have h := h.2 c16
        refine j_iload_n E dX11_sheet_84 1 rfl ?_
        refine j_iload_n E dX11_sheet_85 2 rfl ?_
        refine j_iload E dX11_sheet_86 6 rfl ?_
        refine j_iload E dX11_sheet_88 3 rfl ?_
        refine j_imul E dX11_sheet_90 ?_
        refine j_iadd E dX11_sheet_91 ?_
        refine j_callS E [.int v1, .int (v3 + (v7 * v4))] [.int v7, .ref b15] (c_X11_entryOf (gL G) (gD G) (gY G) v1 (v3 + (v7 * v4)) Z I L _ hZ  h) (gwS W_458 W_459 W_28 W_457) rfl fy_X11_entryOf ⟨by decide, by decide⟩ rfl rfl (Nat.le_of_ble_eq_true rfl) ⟨Nat.zero_le _, Nat.zero_le _⟩ dX11_sheet_92 (fun v17 Z18 I19 L20 q21 => ?_)
        obtain ⟨rfl, r22, rfl, h⟩ := q21
        show jJ G 8 95 [(0, .ref v0), (1, .int v1), (3, .int v3), (4, .int v4), (5, .int v5), (6, .int v6), (7, .int v7)] [.int r22, .int v7, .ref b15] Z I19 L20 0 0
        refine j_goto E 99 dX11_sheet_95 (by decide) ?_
        refine j_sub [0, 1, 2, 3, 4, 5, 6] rfl ?_
        exact m_X11_sheet_b99 E hZ K56 hK56 v0 v1 v3 v4 v5 v6 v7 b15 v7 r22 I19 L20 kv0 kb15 h
set_option maxRecDepth 100000 in
def f_X11_sheet_b51  (Z : jZ) (Q : Int32 → jI → jL → Prop) (v0 : Nat) (v1 : Int32) (v3 : Int32) (v4 : Int32) (v5 : Int32) (s0 : Int32) (I : jI) (L : jL) : Prop := (∃ m56 : Nat, f_X11_sheet_L56  Z Q m56 v0 v1 v3 v4 v5 s0 (0 : Int32) I L)
set_option maxHeartbeats 4000000 in
set_option maxRecDepth 100000 in
theorem m_X11_sheet_b51 {G : jG} {Z : jZ} {Q : Int32 → jI → jL → Prop} (E : jE G cX11_sheet RX11 w_X11_sheet 8 (some .int) { frames := 2, cells := 0, slots := 0, locals := 45 } (rtI Z Q)) (hZ : SH Z)  (v0 : Nat) (v1 : Int32) (v3 : Int32) (v4 : Int32) (v5 : Int32) (s0 : Int32) (I : jI) (L : jL) (kv0 : jk Z v0 11) (h : f_X11_sheet_b51  Z Q v0 v1 v3 v4 v5 s0 I L) : jJ G 8 51 [(0, .ref v0), (1, .int v1), (3, .int v3), (4, .int v4), (5, .int v5)] [.int s0] Z I L 0 0 := by
  refine j_istore E 6 [(6, .int s0), (0, .ref v0), (1, .int v1), (3, .int v3), (4, .int v4), (5, .int v5)] dX11_sheet_51 (by decide) rfl ?_
  refine j_iconst E (v := 0) dX11_sheet_53 (by decide) ?_
  refine j_istore E 7 [(7, .int (0 : Int32)), (6, .int s0), (0, .ref v0), (1, .int v1), (3, .int v3), (4, .int v4), (5, .int v5)] dX11_sheet_54 (by decide) rfl ?_
  obtain ⟨n23, h⟩ := h
  refine j_sub [2, 3, 4, 5, 6, 1, 0] rfl ?_
  exact m_X11_sheet_L56 E hZ  n23 v0 v1 v3 v4 v5 s0 (0 : Int32) I L kv0 h
set_option maxRecDepth 100000 in
def f_X11_sheet_b41  (Z : jZ) (Q : Int32 → jI → jL → Prop) (v0 : Nat) (v1 : Int32) (v2 : Int32) (v3 : Int32) (v4 : Int32) (v5 : Int32) (I : jI) (L : jL) : Prop := ((v5 = 0 → f_X11_sheet_b51  Z Q v0 v1 v3 v4 v5 v2 I L) ∧ (¬ (v5 = 0) → f_X11_sheet_b51  Z Q v0 v1 v3 v4 v5 (0 : Int32) I L))
set_option maxHeartbeats 4000000 in
set_option maxRecDepth 100000 in
theorem m_X11_sheet_b41 {G : jG} {Z : jZ} {Q : Int32 → jI → jL → Prop} (E : jE G cX11_sheet RX11 w_X11_sheet 8 (some .int) { frames := 2, cells := 0, slots := 0, locals := 45 } (rtI Z Q)) (hZ : SH Z)  (v0 : Nat) (v1 : Int32) (v2 : Int32) (v3 : Int32) (v4 : Int32) (v5 : Int32) (I : jI) (L : jL) (kv0 : jk Z v0 11) (h : f_X11_sheet_b41  Z Q v0 v1 v2 v3 v4 v5 I L) : jJ G 8 41 [(0, .ref v0), (1, .int v1), (2, .int v2), (3, .int v3), (4, .int v4), (5, .int v5)] [] Z I L 0 0 := by
  refine j_iload E dX11_sheet_41 5 rfl ?_
  refine j_if_eq E 50 dX11_sheet_43 (by decide) (fun c24 => ?_) (fun c24 => ?_)
  · have h := h.1 c24
    refine j_iload_n E dX11_sheet_50 2 rfl ?_
    refine j_sub [0, 1, 3, 4, 5] rfl ?_
    exact m_X11_sheet_b51 E hZ  v0 v1 v3 v4 v5 v2 I L kv0 h
  · have h := h.2 c24
    refine j_iconst E (v := 0) dX11_sheet_46 (by decide) ?_
    refine j_goto E 51 dX11_sheet_47 (by decide) ?_
    refine j_sub [0, 1, 3, 4, 5] rfl ?_
    exact m_X11_sheet_b51 E hZ  v0 v1 v3 v4 v5 (0 : Int32) I L kv0 h
set_option maxRecDepth 100000 in
def f_X11_sheet_b27  (Z : jZ) (Q : Int32 → jI → jL → Prop) (v0 : Nat) (v1 : Int32) (v2 : Int32) (v3 : Int32) (v4 : Int32) (s0 : Int32) (I : jI) (L : jL) : Prop := ((¬ s0 = 0 → f_X11_sheet_b41  Z Q v0 v1 v2 v3 v4 s0 I L) ∧ (s0 = 0 → ((0 ≤ v2 → f_X11_sheet_b41  Z Q v0 v1 v2 v3 v4 s0 I L) ∧ (¬ (0 ≤ v2) → Q (-2 : Int32) I L))))
set_option maxHeartbeats 4000000 in
set_option maxRecDepth 100000 in
theorem m_X11_sheet_b27 {G : jG} {Z : jZ} {Q : Int32 → jI → jL → Prop} (E : jE G cX11_sheet RX11 w_X11_sheet 8 (some .int) { frames := 2, cells := 0, slots := 0, locals := 45 } (rtI Z Q)) (hZ : SH Z)  (v0 : Nat) (v1 : Int32) (v2 : Int32) (v3 : Int32) (v4 : Int32) (s0 : Int32) (I : jI) (L : jL) (kv0 : jk Z v0 11) (h : f_X11_sheet_b27  Z Q v0 v1 v2 v3 v4 s0 I L) : jJ G 8 27 [(0, .ref v0), (1, .int v1), (2, .int v2), (3, .int v3), (4, .int v4)] [.int s0] Z I L 0 0 := by
  refine j_istore E 5 [(5, .int s0), (0, .ref v0), (1, .int v1), (2, .int v2), (3, .int v3), (4, .int v4)] dX11_sheet_27 (by decide) rfl ?_
  refine j_iload E dX11_sheet_29 0 rfl ?_
  refine j_if_ne E 41 dX11_sheet_31 (by decide) (fun c25 => ?_) (fun c25 => ?_)
  · have h := h.1 c25
    refine j_sub [1, 2, 3, 4, 5, 0] rfl ?_
    exact m_X11_sheet_b41 E hZ  v0 v1 v2 v3 v4 s0 I L kv0 h
  · have h := h.2 c25
    refine j_iload_n E dX11_sheet_34 3 rfl ?_
    refine j_if_ge E 41 dX11_sheet_35 (by decide) (fun c26 => ?_) (fun c26 => ?_)
    · have h := h.1 c26
      refine j_sub [1, 2, 3, 4, 5, 0] rfl ?_
      exact m_X11_sheet_b41 E hZ  v0 v1 v2 v3 v4 s0 I L kv0 h
    · have h := h.2 c26
      refine j_bipush E (v := -2) dX11_sheet_38 (by decide) ?_
      exact j_ireturn E ⟨rfl, _, rfl, h⟩ (Nat.zero_le _) (Nat.zero_le _) dX11_sheet_40
set_option maxRecDepth 100000 in
def f_X11_sheet (v0 : Nat) (v1 : Int32) (v2 : Int32) (v3 : Int32) (v4 : Int32) (Z : jZ) (I : jI) (L : jL) (Q : Int32 → jI → jL → Prop) : Prop := ((v1 < 0 → Q (-1 : Int32) I L) ∧ (¬ (v1 < 0) → (((3 : Int32) < v1 → Q (-1 : Int32) I L) ∧ (¬ ((3 : Int32) < v1) → ((v2 ≤ (24 : Int32) → ((¬ v1 = (3 : Int32) → f_X11_sheet_b27  Z Q v0 v1 v2 v3 v4 (0 : Int32) I L) ∧ (v1 = (3 : Int32) → f_X11_sheet_b27  Z Q v0 v1 v2 v3 v4 (1 : Int32) I L))) ∧ (¬ (v2 ≤ (24 : Int32)) → Q (-1 : Int32) I L))))))
set_option maxHeartbeats 4000000 in
set_option maxRecDepth 100000 in
theorem c_X11_sheet (l : Launch) (D : va_G) (cy : jC) (v0 : Nat) (v1 : Int32) (v2 : Int32) (v3 : Int32) (v4 : Int32) (Z : jZ) (I : jI) (L : jL) (Q : Int32 → jI → jL → Prop) (hZ : SH Z) (kv0 : jk Z v0 11) (h : f_X11_sheet v0 v1 v2 v3 v4 Z I L Q) : jCt l yX11_sheet w_X11_sheet { frames := 2, cells := 0, slots := 0, locals := 45 } D cy [.ref v0, .int v1, .int v2, .int v3, .int v4] Z I L (rtI Z Q) := by
  refine jCt_of (cc := cX11_sheet) (maxL := 8) (ret := (some .int)) (by decide +kernel) rfl (Nat.le_of_ble_eq_true rfl) ?_
  intro G eD eY eL E
  subst eD; subst eY; subst eL
  have E : jE G cX11_sheet RX11 w_X11_sheet 8 (some .int) { frames := 2, cells := 0, slots := 0, locals := 45 } (rtI Z Q) := E
  show jJ G 8 0 [(0, .ref v0), (1, .int v1), (2, .int v2), (3, .int v3), (4, .int v4)] [] Z I L 0 0
  refine j_iload_n E dX11_sheet_0 1 rfl ?_
  refine j_if_lt E 15 dX11_sheet_1 (by decide) (fun c27 => ?_) (fun c27 => ?_)
  · have h := h.1 c27
    refine j_iconst E (v := -1) dX11_sheet_15 (by decide) ?_
    exact j_ireturn E ⟨rfl, _, rfl, h⟩ (Nat.zero_le _) (Nat.zero_le _) dX11_sheet_16
  · have h := h.2 c27
    refine j_iload_n E dX11_sheet_4 1 rfl ?_
    refine j_iconst E (v := 3) dX11_sheet_5 (by decide) ?_
    refine j_icmp_gt E 15 dX11_sheet_6 (by decide) (fun c28 => ?_) (fun c28 => ?_)
    · have h := h.1 c28
      refine j_iconst E (v := -1) dX11_sheet_15 (by decide) ?_
      exact j_ireturn E ⟨rfl, _, rfl, h⟩ (Nat.zero_le _) (Nat.zero_le _) dX11_sheet_16
    · have h := h.2 c28
      refine j_iload_n E dX11_sheet_9 2 rfl ?_
      refine j_bipush E (v := 24) dX11_sheet_10 (by decide) ?_
      refine j_icmp_le E 17 dX11_sheet_12 (by decide) (fun c29 => ?_) (fun c29 => ?_)
      · have h := h.1 c29
        refine j_iload_n E dX11_sheet_17 1 rfl ?_
        refine j_iconst E (v := 3) dX11_sheet_18 (by decide) ?_
        refine j_icmp_ne E 26 dX11_sheet_19 (by decide) (fun c30 => ?_) (fun c30 => ?_)
        · have h := h.1 c30
          refine j_iconst E (v := 0) dX11_sheet_26 (by decide) ?_
          refine j_sub [0, 1, 2, 3, 4] rfl ?_
          exact m_X11_sheet_b27 E hZ  v0 v1 v2 v3 v4 (0 : Int32) I L kv0 h
        · have h := h.2 c30
          refine j_iconst E (v := 1) dX11_sheet_22 (by decide) ?_
          refine j_goto E 27 dX11_sheet_23 (by decide) ?_
          refine j_sub [0, 1, 2, 3, 4] rfl ?_
          exact m_X11_sheet_b27 E hZ  v0 v1 v2 v3 v4 (1 : Int32) I L kv0 h
      · have h := h.2 c29
        refine j_iconst E (v := -1) dX11_sheet_15 (by decide) ?_
        exact j_ireturn E ⟨rfl, _, rfl, h⟩ (Nat.zero_le _) (Nat.zero_le _) dX11_sheet_16
set_option maxRecDepth 100000 in
def f_X11_feud (v0 : Nat) (v1 : Int32) (v2 : Int32) (v3 : Int32) (Z : jZ) (I : jI) (L : jL) (Q : Int32 → jI → jL → Prop) : Prop := (f_X11_isFamily v1 Z I L (fun r6 I3 L4 => ((r6 = 0 → Q (0 : Int32) I3 L4) ∧ (¬ (r6 = 0) → (f_X11_isFamily v2 Z I3 L4 (fun r13 I10 L11 => ((r13 = 0 → Q (0 : Int32) I10 L11) ∧ (¬ (r13 = 0) → ((¬ v1 = v2 → (∀ b16 : Nat, jr Z v0 2 = some b16 → (f_X8_quarrel b16 v1 v2 v3 Z I10 L11 (fun I19 L20 => Q (1 : Int32) I19 L20)))) ∧ (v1 = v2 → Q (0 : Int32) I10 L11))))))))))
set_option maxHeartbeats 4000000 in
set_option maxRecDepth 100000 in
theorem c_X11_feud (l : Launch) (D : va_G) (cy : jC) (v0 : Nat) (v1 : Int32) (v2 : Int32) (v3 : Int32) (Z : jZ) (I : jI) (L : jL) (Q : Int32 → jI → jL → Prop) (hZ : SH Z) (kv0 : jk Z v0 11) (h : f_X11_feud v0 v1 v2 v3 Z I L Q) : jCt l yX11_feud w_X11_feud { frames := 2, cells := 0, slots := 0, locals := 43 } D cy [.ref v0, .int v1, .int v2, .int v3] Z I L (rtZ Z Q) := by
  refine jCt_of (cc := cX11_feud) (maxL := 4) (ret := (some .boolean)) (by decide +kernel) rfl (Nat.le_of_ble_eq_true rfl) ?_
  intro G eD eY eL E
  subst eD; subst eY; subst eL
  have E : jE G cX11_feud RX11 w_X11_feud 4 (some .boolean) { frames := 2, cells := 0, slots := 0, locals := 43 } (rtZ Z Q) := E
  show jJ G 4 0 [(0, .ref v0), (1, .int v1), (2, .int v2), (3, .int v3)] [] Z I L 0 0
  refine j_iload_n E dX11_feud_0 1 rfl ?_
  refine j_callS E [.int v1] [] (c_X11_isFamily (gL G) (gD G) (gY G) v1 Z I L _ hZ  h) (gwS W_460 W_214 W_28 W_213) rfl fy_X11_isFamily ⟨by decide, by decide⟩ rfl rfl (Nat.le_of_ble_eq_true rfl) ⟨Nat.zero_le _, Nat.zero_le _⟩ dX11_feud_1 (fun v1 Z2 I3 L4 q5 => ?_)
  obtain ⟨rfl, r6, rfl, zr6, h⟩ := q5
  show jJ G 4 4 [(0, .ref v0), (1, .int v1), (2, .int v2), (3, .int v3)] [.int r6] Z I3 L4 0 0
  refine j_if_eq E 19 dX11_feud_4 (by decide) (fun c7 => ?_) (fun c7 => ?_)
  · have h := h.1 c7
    refine j_iconst E (v := 0) dX11_feud_19 (by decide) ?_
    exact j_zreturn E (Or.inl rfl) ⟨rfl, _, rfl, (Or.inl rfl), h⟩ (Nat.zero_le _) (Nat.zero_le _) dX11_feud_20
  · have h := h.2 c7
    refine j_iload_n E dX11_feud_7 2 rfl ?_
    refine j_callS E [.int v2] [] (c_X11_isFamily (gL G) (gD G) (gY G) v2 Z I3 L4 _ hZ  h) (gwS W_460 W_214 W_28 W_213) rfl fy_X11_isFamily ⟨by decide, by decide⟩ rfl rfl (Nat.le_of_ble_eq_true rfl) ⟨Nat.zero_le _, Nat.zero_le _⟩ dX11_feud_8 (fun v8 Z9 I10 L11 q12 => ?_)
    obtain ⟨rfl, r13, rfl, zr13, h⟩ := q12
    show jJ G 4 11 [(0, .ref v0), (1, .int v1), (2, .int v2), (3, .int v3)] [.int r13] Z I10 L11 0 0
    refine j_if_eq E 19 dX11_feud_11 (by decide) (fun c14 => ?_) (fun c14 => ?_)
    · have h := h.1 c14
      refine j_iconst E (v := 0) dX11_feud_19 (by decide) ?_
      exact j_zreturn E (Or.inl rfl) ⟨rfl, _, rfl, (Or.inl rfl), h⟩ (Nat.zero_le _) (Nat.zero_le _) dX11_feud_20
    · have h := h.2 c14
      refine j_iload_n E dX11_feud_14 1 rfl ?_
      refine j_iload_n E dX11_feud_15 2 rfl ?_
      refine j_icmp_ne E 21 dX11_feud_16 (by decide) (fun c15 => ?_) (fun c15 => ?_)
      · have h := h.1 c15
        refine j_aload_n E dX11_feud_21 0 rfl ?_
        obtain ⟨b16, eb16, kb16⟩ := sh_o hZ kv0 (j := 2) (k := 8) rfl
        have h := h b16 eb16
        refine j_getr E 11 2 rfl rfl (by decide) (by decide) (iw iT_11) rfl rfl (tw W_438) kv0 eb16 dX11_feud_22 ?_
        refine j_iload_n E dX11_feud_25 1 rfl ?_
        refine j_iload_n E dX11_feud_26 2 rfl ?_
        refine j_iload_n E dX11_feud_27 3 rfl ?_
        refine j_callV E [.int v1, .int v2, .int v3] [] (c_X8_quarrel (gL G) (gD G) (gY G) b16 v1 v2 v3 Z I10 L11 _ hZ kb16 h) (gwV W_462 W_463 W_464 W_248 W_461) rfl ⟨rfl, fy_X8_quarrel⟩ ⟨by decide, by decide⟩ (c := 8) rfl (by decide) kb16 rfl rfl (Nat.le_of_ble_eq_true rfl) ⟨Nat.zero_le _, Nat.zero_le _⟩ dX11_feud_28 (fun v17 Z18 I19 L20 q21 => ?_)
        obtain ⟨rfl, rfl, h⟩ := q21
        show jJ G 4 31 [(0, .ref v0), (1, .int v1), (2, .int v2), (3, .int v3)] [] Z I19 L20 0 0
        refine j_iconst E (v := 1) dX11_feud_31 (by decide) ?_
        exact j_zreturn E (Or.inr rfl) ⟨rfl, _, rfl, (Or.inr rfl), h⟩ (Nat.zero_le _) (Nat.zero_le _) dX11_feud_32
      · have h := h.2 c15
        refine j_iconst E (v := 0) dX11_feud_19 (by decide) ?_
        exact j_zreturn E (Or.inl rfl) ⟨rfl, _, rfl, (Or.inl rfl), h⟩ (Nat.zero_le _) (Nat.zero_le _) dX11_feud_20
set_option maxRecDepth 100000 in
def f_X11_wears_L16  (Z : jZ) (Q : Int32 → jI → jL → Prop) : Nat → Nat → Int32 → Int32 → Int32 → jI → jL → Prop
  | 0 => fun _ _ _ _ _ _ => False
  | n + 1 => fun v0 v1 v2 v3 I L => (∀ b1 : Nat, jr Z v0 2 = some b1 → (((I b1 9) ≤ v3 → Q v2 I L) ∧ (¬ ((I b1 9) ≤ v3) → (∀ b3 : Nat, jr Z v0 2 = some b3 → (∀ b4 : Nat, jr Z b3 1 = some b4 → (∀ b5 : Nat, jr Z v0 2 = some b5 → (∀ b6 : Nat, jr Z b5 1 = some b6 → (vp_in v3 24 ∧ (vp_in v3 24 ∧ (∀ I9 : jI, I9 = jpI I b4 v3.toNatClampNeg (if (0 : Int32) < ((I b6 v3.toNatClampNeg) - v1) then ((I b6 v3.toNatClampNeg) - v1) else (0 : Int32)) → (∀ b10 : Nat, jr Z v0 2 = some b10 → (∀ b11 : Nat, jr Z b10 1 = some b11 → (vp_in v3 24 ∧ (∀ x13 : Int32, x13 = (v2 + (I9 b11 v3.toNatClampNeg)) → (∀ x14 : Int32, x14 = v3 + 1 → (f_X11_wears_L16 Z Q n) v0 v1 x13 x14 I9 L)))))))))))))))
set_option maxHeartbeats 4000000 in
set_option maxRecDepth 100000 in
theorem m_X11_wears_L16 {G : jG} {Z : jZ} {Q : Int32 → jI → jL → Prop} (E : jE G cX11_wears RX11 w_X11_wears 4 (some .int) { frames := 1, cells := 0, slots := 0, locals := 23 } (rtI Z Q)) (hZ : SH Z)  : ∀ (n : Nat) (v0 : Nat) (v1 : Int32) (v2 : Int32) (v3 : Int32) (I : jI) (L : jL), jk Z v0 11 → f_X11_wears_L16  Z Q n v0 v1 v2 v3 I L → jJ G 4 16 [(0, .ref v0), (1, .int v1), (2, .int v2), (3, .int v3)] [] Z I L 0 0 := by
  intro n
  induction n with
  | zero => intro v0 v1 v2 v3 I L _ h; exact h.elim
  | succ n ih =>
    intro v0 v1 v2 v3 I L kv0 h
    have h : (∀ b1 : Nat, jr Z v0 2 = some b1 → (((I b1 9) ≤ v3 → Q v2 I L) ∧ (¬ ((I b1 9) ≤ v3) → (∀ b3 : Nat, jr Z v0 2 = some b3 → (∀ b4 : Nat, jr Z b3 1 = some b4 → (∀ b5 : Nat, jr Z v0 2 = some b5 → (∀ b6 : Nat, jr Z b5 1 = some b6 → (vp_in v3 24 ∧ (vp_in v3 24 ∧ (∀ I9 : jI, I9 = jpI I b4 v3.toNatClampNeg (if (0 : Int32) < ((I b6 v3.toNatClampNeg) - v1) then ((I b6 v3.toNatClampNeg) - v1) else (0 : Int32)) → (∀ b10 : Nat, jr Z v0 2 = some b10 → (∀ b11 : Nat, jr Z b10 1 = some b11 → (vp_in v3 24 ∧ (∀ x13 : Int32, x13 = (v2 + (I9 b11 v3.toNatClampNeg)) → (∀ x14 : Int32, x14 = v3 + 1 → (f_X11_wears_L16 Z Q n) v0 v1 x13 x14 I9 L))))))))))))))) := h
    obtain ⟨K16, eK16⟩ : ∃ K : Nat → Int32 → Int32 → Int32 → jI → jL → Prop, K = f_X11_wears_L16  Z Q n := ⟨_, rfl⟩
    have hK16 := ih
    clear eK16 K16
    generalize f_X11_wears_L16  Z Q n = K16 at hK16 h
    refine j_iload_n E dX11_wears_16 3 rfl ?_
    refine j_aload_n E dX11_wears_17 0 rfl ?_
    obtain ⟨b1, eb1, kb1⟩ := sh_o hZ kv0 (j := 2) (k := 8) rfl
    have h := h b1 eb1
    refine j_getr E 11 2 rfl rfl (by decide) (by decide) (iw iT_11) rfl rfl (tw W_438) kv0 eb1 dX11_wears_18 ?_
    refine j_getiN E 8 9 rfl rfl (by decide) (by decide) (iw iT_8) rfl rfl (nw_8_9_X11_172) kb1 dX11_wears_21 ?_
    refine j_icmp_ge E 69 dX11_wears_24 (by decide) (fun c2 => ?_) (fun c2 => ?_)
    · have h := h.1 c2
      refine j_iload_n E dX11_wears_69 2 rfl ?_
      exact j_ireturn E ⟨rfl, _, rfl, h⟩ (Nat.zero_le _) (Nat.zero_le _) dX11_wears_70
    · have h := h.2 c2
      refine j_aload_n E dX11_wears_27 0 rfl ?_
      obtain ⟨b3, eb3, kb3⟩ := sh_o hZ kv0 (j := 2) (k := 8) rfl
      have h := h b3 eb3
      refine j_getr E 11 2 rfl rfl (by decide) (by decide) (iw iT_11) rfl rfl (tw W_438) kv0 eb3 dX11_wears_28 ?_
      obtain ⟨b4, eb4, kb4, lb4⟩ := sh_f hZ kb3 (j := 1) (k := 14) (m := 24) rfl
      have h := h b4 eb4
      refine j_getrN E 8 1 rfl rfl (by decide) (by decide) (iw iT_8) rfl rfl (nw_8_1_X11_151) kb3 eb4 dX11_wears_31 ?_
      refine j_iload_n E dX11_wears_34 3 rfl ?_
      refine j_iconst E (v := 0) dX11_wears_35 (by decide) ?_
      refine j_aload_n E dX11_wears_36 0 rfl ?_
      obtain ⟨b5, eb5, kb5⟩ := sh_o hZ kv0 (j := 2) (k := 8) rfl
      have h := h b5 eb5
      refine j_getr E 11 2 rfl rfl (by decide) (by decide) (iw iT_11) rfl rfl (tw W_438) kv0 eb5 dX11_wears_37 ?_
      obtain ⟨b6, eb6, kb6, lb6⟩ := sh_f hZ kb5 (j := 1) (k := 14) (m := 24) rfl
      have h := h b6 eb6
      refine j_getrN E 8 1 rfl rfl (by decide) (by decide) (iw iT_8) rfl rfl (nw_8_1_X11_151) kb5 eb6 dX11_wears_40 ?_
      refine j_iload_n E dX11_wears_43 3 rfl ?_
      obtain ⟨o7, h⟩ := h
      refine j_iald E kb6 (by rw [lb6]; exact o7) dX11_wears_44 ?_
      refine j_iload_n E dX11_wears_45 1 rfl ?_
      refine j_isub E dX11_wears_46 ?_
      refine j_max E (tw W_452) (tw W_138) (tw W_119) (tw W_139) (by decide) (Nat.le_of_ble_eq_true rfl) (Nat.zero_le _) (Nat.zero_le _) dX11_wears_47 ?_
      obtain ⟨o8, h⟩ := h
      refine j_iast E kb4 (by rw [lb4]; exact o8) dX11_wears_50 ?_
      refine j_nmI (fun I9 eI9 => ?_)
      have h := h I9 eI9
      refine j_iload_n E dX11_wears_51 2 rfl ?_
      refine j_aload_n E dX11_wears_52 0 rfl ?_
      obtain ⟨b10, eb10, kb10⟩ := sh_o hZ kv0 (j := 2) (k := 8) rfl
      have h := h b10 eb10
      refine j_getr E 11 2 rfl rfl (by decide) (by decide) (iw iT_11) rfl rfl (tw W_438) kv0 eb10 dX11_wears_53 ?_
      obtain ⟨b11, eb11, kb11, lb11⟩ := sh_f hZ kb10 (j := 1) (k := 14) (m := 24) rfl
      have h := h b11 eb11
      refine j_getrN E 8 1 rfl rfl (by decide) (by decide) (iw iT_8) rfl rfl (nw_8_1_X11_151) kb10 eb11 dX11_wears_56 ?_
      refine j_iload_n E dX11_wears_59 3 rfl ?_
      obtain ⟨o12, h⟩ := h
      refine j_iald E kb11 (by rw [lb11]; exact o12) dX11_wears_60 ?_
      refine j_iadd E dX11_wears_61 ?_
      refine j_topi (fun x13 ex13 => ?_)
      have h := h x13 ex13
      refine j_istore_n E 2 [(2, .int x13), (0, .ref v0), (1, .int v1), (3, .int v3)] dX11_wears_62 rfl (by decide) rfl ?_
      obtain ⟨x14, ex14⟩ : ∃ y : Int32, y = v3 + 1 := ⟨_, rfl⟩
      have h := h x14 ex14
      refine j_iinc E x14 [(3, .int x14), (2, .int x13), (0, .ref v0), (1, .int v1)] dX11_wears_63 3 rfl (by rw [ex14]; rfl) (by decide) rfl ?_
      refine j_goto E 16 dX11_wears_66 (by decide) ?_
      refine j_sub [2, 3, 1, 0] rfl ?_
      exact hK16 v0 v1 x13 x14 I9 L kv0 h
set_option maxRecDepth 100000 in
def f_X11_wears (v0 : Nat) (v1 : Int32) (Z : jZ) (I : jI) (L : jL) (Q : Int32 → jI → jL → Prop) : Prop := ((v1 < 0 → Q (-1 : Int32) I L) ∧ (¬ (v1 < 0) → ((v1 ≤ (9 : Int32) → (∃ m16 : Nat, f_X11_wears_L16  Z Q m16 v0 v1 (0 : Int32) (0 : Int32) I L)) ∧ (¬ (v1 ≤ (9 : Int32)) → Q (-1 : Int32) I L))))
set_option maxHeartbeats 4000000 in
set_option maxRecDepth 100000 in
theorem c_X11_wears (l : Launch) (D : va_G) (cy : jC) (v0 : Nat) (v1 : Int32) (Z : jZ) (I : jI) (L : jL) (Q : Int32 → jI → jL → Prop) (hZ : SH Z) (kv0 : jk Z v0 11) (h : f_X11_wears v0 v1 Z I L Q) : jCt l yX11_wears w_X11_wears { frames := 1, cells := 0, slots := 0, locals := 23 } D cy [.ref v0, .int v1] Z I L (rtI Z Q) := by
  refine jCt_of (cc := cX11_wears) (maxL := 4) (ret := (some .int)) (by decide +kernel) rfl (Nat.le_of_ble_eq_true rfl) ?_
  intro G eD eY eL E
  subst eD; subst eY; subst eL
  have E : jE G cX11_wears RX11 w_X11_wears 4 (some .int) { frames := 1, cells := 0, slots := 0, locals := 23 } (rtI Z Q) := E
  show jJ G 4 0 [(0, .ref v0), (1, .int v1)] [] Z I L 0 0
  refine j_iload_n E dX11_wears_0 1 rfl ?_
  refine j_if_lt E 10 dX11_wears_1 (by decide) (fun c15 => ?_) (fun c15 => ?_)
  · have h := h.1 c15
    refine j_iconst E (v := -1) dX11_wears_10 (by decide) ?_
    exact j_ireturn E ⟨rfl, _, rfl, h⟩ (Nat.zero_le _) (Nat.zero_le _) dX11_wears_11
  · have h := h.2 c15
    refine j_iload_n E dX11_wears_4 1 rfl ?_
    refine j_bipush E (v := 9) dX11_wears_5 (by decide) ?_
    refine j_icmp_le E 12 dX11_wears_7 (by decide) (fun c16 => ?_) (fun c16 => ?_)
    · have h := h.1 c16
      refine j_iconst E (v := 0) dX11_wears_12 (by decide) ?_
      refine j_istore_n E 2 [(2, .int (0 : Int32)), (0, .ref v0), (1, .int v1)] dX11_wears_13 rfl (by decide) rfl ?_
      refine j_iconst E (v := 0) dX11_wears_14 (by decide) ?_
      refine j_istore_n E 3 [(3, .int (0 : Int32)), (2, .int (0 : Int32)), (0, .ref v0), (1, .int v1)] dX11_wears_15 rfl (by decide) rfl ?_
      obtain ⟨n17, h⟩ := h
      refine j_sub [2, 3, 1, 0] rfl ?_
      exact m_X11_wears_L16 E hZ  n17 v0 v1 (0 : Int32) (0 : Int32) I L kv0 h
    · have h := h.2 c16
      refine j_iconst E (v := -1) dX11_wears_10 (by decide) ?_
      exact j_ireturn E ⟨rfl, _, rfl, h⟩ (Nat.zero_le _) (Nat.zero_le _) dX11_wears_11
set_option maxRecDepth 100000 in
def f_X11_vow (v0 : Nat) (v1 : Int32) (v2 : Int32) (Z : jZ) (I : jI) (L : jL) (Q : Int32 → jI → jL → Prop) : Prop := (f_X11_find v0 v1 Z I L (fun r6 I3 L4 => ((r6 = none → Q (-1 : Int32) I3 L4) ∧ (∀ b7 : Nat, r6 = some b7 → ((v2 < 0 → Q (-1 : Int32) I3 L4) ∧ (¬ (v2 < 0) → ((v2 ≤ (255 : Int32) → (∀ x11 : Int32, x11 = (I3 b7 4) → (∀ I12 : jI, I12 = jpI I3 b7 4 v2 → Q x11 I12 L4))) ∧ (¬ (v2 ≤ (255 : Int32)) → Q (-1 : Int32) I3 L4))))))))
set_option maxHeartbeats 4000000 in
set_option maxRecDepth 100000 in
theorem c_X11_vow (l : Launch) (D : va_G) (cy : jC) (v0 : Nat) (v1 : Int32) (v2 : Int32) (Z : jZ) (I : jI) (L : jL) (Q : Int32 → jI → jL → Prop) (hZ : SH Z) (kv0 : jk Z v0 11) (h : f_X11_vow v0 v1 v2 Z I L Q) : jCt l yX11_vow w_X11_vow { frames := 1, cells := 0, slots := 0, locals := 21 } D cy [.ref v0, .int v1, .int v2] Z I L (rtI Z Q) := by
  refine jCt_of (cc := cX11_vow) (maxL := 5) (ret := (some .int)) (by decide +kernel) rfl (Nat.le_of_ble_eq_true rfl) ?_
  intro G eD eY eL E
  subst eD; subst eY; subst eL
  have E : jE G cX11_vow RX11 w_X11_vow 5 (some .int) { frames := 1, cells := 0, slots := 0, locals := 21 } (rtI Z Q) := E
  show jJ G 5 0 [(0, .ref v0), (1, .int v1), (2, .int v2)] [] Z I L 0 0
  refine j_aload_n E dX11_vow_0 0 rfl ?_
  refine j_iload_n E dX11_vow_1 1 rfl ?_
  refine j_callV E [.int v1] [] (c_X11_find (gL G) (gD G) (gY G) v0 v1 Z I L _ hZ kv0 h) (gwV W_421 W_422 W_423 W_28 W_420) rfl ⟨rfl, fy_X11_find⟩ ⟨by decide, by decide⟩ (c := 11) rfl (by decide) kv0 rfl rfl (Nat.le_of_ble_eq_true rfl) ⟨Nat.zero_le _, Nat.zero_le _⟩ dX11_vow_2 (fun v1 Z2 I3 L4 q5 => ?_)
  obtain ⟨rfl, r6, rfl, zr6, h⟩ := q5
  show jJ G 5 5 [(0, .ref v0), (1, .int v1), (2, .int v2)] (va_rf r6 :: []) Z I3 L4 0 0
  rcases c8 : r6 with _ | b7
  · have h := h.1 c8
    refine j_rfN rfl ?_
    refine j_astore_nN E 3 [(3, .null), (0, .ref v0), (1, .int v1), (2, .int v2)] dX11_vow_5 rfl (by decide) rfl ?_
    refine j_aload_nN E dX11_vow_6 0 rfl ?_
    refine j_ifnullN E 21 dX11_vow_7 (by decide) ?_
    refine j_iconst E (v := -1) dX11_vow_21 (by decide) ?_
    exact j_ireturn E ⟨rfl, _, rfl, h⟩ (Nat.zero_le _) (Nat.zero_le _) dX11_vow_22
  · have h := h.2 b7 c8
    have kb7 := zr6 b7 c8
    refine j_rfS rfl ?_
    refine j_astore_n E 3 [(3, .ref b7), (0, .ref v0), (1, .int v1), (2, .int v2)] dX11_vow_5 rfl (by decide) rfl ?_
    refine j_aload_n E dX11_vow_6 0 rfl ?_
    refine j_ifnull E dX11_vow_7 ?_
    refine j_iload_n E dX11_vow_10 3 rfl ?_
    refine j_if_lt E 21 dX11_vow_11 (by decide) (fun c9 => ?_) (fun c9 => ?_)
    · have h := h.1 c9
      refine j_iconst E (v := -1) dX11_vow_21 (by decide) ?_
      exact j_ireturn E ⟨rfl, _, rfl, h⟩ (Nat.zero_le _) (Nat.zero_le _) dX11_vow_22
    · have h := h.2 c9
      refine j_iload_n E dX11_vow_14 3 rfl ?_
      refine j_sipush E (v := 255) dX11_vow_15 (by decide) ?_
      refine j_icmp_le E 23 dX11_vow_18 (by decide) (fun c10 => ?_) (fun c10 => ?_)
      · have h := h.1 c10
        refine j_aload_n E dX11_vow_23 0 rfl ?_
        refine j_getiN E 5 4 rfl rfl (by decide) (by decide) (iw iT_5) rfl rfl (nw_5_4_X11_196) kb7 dX11_vow_24 ?_
        refine j_topi (fun x11 ex11 => ?_)
        have h := h x11 ex11
        refine j_istore E 4 [(4, .int x11), (3, .ref b7), (0, .ref v0), (1, .int v1), (2, .int v2)] dX11_vow_27 (by decide) rfl ?_
        refine j_aload_n E dX11_vow_29 1 rfl ?_
        refine j_iload_n E dX11_vow_30 4 rfl ?_
        refine j_putiN E 5 4 rfl rfl (by decide) (by decide) (iw iT_5) tyX5_ok nmX5 rfl rfl (nw_5_4_X11_196) rfl rfl rfl kb7 dX11_vow_31 ?_
        refine j_nmI (fun I12 eI12 => ?_)
        have h := h I12 eI12
        refine j_iload E dX11_vow_34 0 rfl ?_
        exact j_ireturn E ⟨rfl, _, rfl, h⟩ (Nat.zero_le _) (Nat.zero_le _) dX11_vow_36
      · have h := h.2 c10
        refine j_iconst E (v := -1) dX11_vow_21 (by decide) ?_
        exact j_ireturn E ⟨rfl, _, rfl, h⟩ (Nat.zero_le _) (Nat.zero_le _) dX11_vow_22
set_option maxRecDepth 100000 in
def f_X11_of (v0 : Nat) (v1 : Int32) (v2 : Int32) (Z : jZ) (I : jI) (L : jL) (Q : Int32 → jI → jL → Prop) (QX : jI → jL → Prop) : Prop := (f_X11_find v0 v1 Z I L (fun r6 I3 L4 => ((r6 = none → QX I3 L4) ∧ (∀ b7 : Nat, r6 = some b7 → ((v2 = 0 → Q (I3 b7 5) I3 L4) ∧ (¬ v2 = 0 → ((v2 = 1 → Q (I3 b7 6) I3 L4) ∧ (¬ v2 = 1 → ((v2 = 2 → Q (I3 b7 7) I3 L4) ∧ (¬ v2 = 2 → ((v2 = 3 → Q (I3 b7 2) I3 L4) ∧ (¬ v2 = 3 → ((v2 = 4 → Q (I3 b7 3) I3 L4) ∧ (¬ v2 = 4 → ((v2 = 5 → Q (I3 b7 4) I3 L4) ∧ (¬ v2 = 5 → ((v2 = 6 → Q (I3 b7 0) I3 L4) ∧ (¬ v2 = 6 → ((v2 = 7 → Q (I3 b7 1) I3 L4) ∧ (¬ v2 = 7 → QX I3 L4))))))))))))))))))))
set_option maxHeartbeats 4000000 in
set_option maxRecDepth 100000 in
theorem c_X11_of (l : Launch) (hl0 : l.stackTraces = false) (D : va_G) (cy : jC) (v0 : Nat) (v1 : Int32) (v2 : Int32) (Z : jZ) (I : jI) (L : jL) (Q : Int32 → jI → jL → Prop) (QX : jI → jL → Prop) (hZ : SH Z) (kv0 : jk Z v0 11) (h : f_X11_of v0 v1 v2 Z I L Q QX) : jCtX l yX11_of w_X11_of { frames := 6, cells := 1, slots := 6, locals := 90 } D cy [.ref v0, .int v1, .int v2] Z I L (rtI Z Q) (fun Z9 I9 L9 => Z = Z9 ∧ QX I9 L9) := by
  refine jCtX_of hl0 (cc := cX11_of) (maxL := 4) (ret := (some .int)) (by decide +kernel) rfl (Nat.le_of_ble_eq_true rfl) ?_
  intro G eD eY eL E EX
  subst eD; subst eY; subst eL
  have E : jE G cX11_of RX11 w_X11_of 4 (some .int) { frames := 6, cells := 1, slots := 6, locals := 90 } (rtI Z Q) := E
  show jJ G 4 0 [(0, .ref v0), (1, .int v1), (2, .int v2)] [] Z I L 0 0
  refine j_aload_n E dX11_of_0 0 rfl ?_
  refine j_iload_n E dX11_of_1 1 rfl ?_
  refine j_callV E [.int v1] [] (c_X11_find (gL G) (gD G) (gY G) v0 v1 Z I L _ hZ kv0 h) (gwV W_421 W_422 W_423 W_28 W_420) rfl ⟨rfl, fy_X11_find⟩ ⟨by decide, by decide⟩ (c := 11) rfl (by decide) kv0 rfl rfl (Nat.le_of_ble_eq_true rfl) ⟨Nat.zero_le _, Nat.zero_le _⟩ dX11_of_2 (fun v1 Z2 I3 L4 q5 => ?_)
  obtain ⟨rfl, r6, rfl, zr6, h⟩ := q5
  show jJ G 4 5 [(0, .ref v0), (1, .int v1), (2, .int v2)] (va_rf r6 :: []) Z I3 L4 0 0
  rcases c8 : r6 with _ | b7
  · have h := h.1 c8
    refine j_rfN rfl ?_
    refine j_astore_nN E 3 [(3, .null), (0, .ref v0), (1, .int v1), (2, .int v2)] dX11_of_5 rfl (by decide) rfl ?_
    refine j_aload_nN E dX11_of_6 0 rfl ?_
    refine j_ifnonnullN E dX11_of_7 ?_
    exact j_throw E EX (w := 6) (is := 199) (text := "no such pilgrim") (by decide) W_449 W_450 ⟨by decide, by decide⟩ rfl (by decide) (by decide) ⟨rfl, h⟩ dX11_of_10 dX11_of_13 (Or.inl ⟨dX11_of_14, rfl⟩) dX11_of_16 dX11_of_19
  · have h := h.2 b7 c8
    have kb7 := zr6 b7 c8
    refine j_rfS rfl ?_
    refine j_astore_n E 3 [(3, .ref b7), (0, .ref v0), (1, .int v1), (2, .int v2)] dX11_of_5 rfl (by decide) rfl ?_
    refine j_aload_n E dX11_of_6 0 rfl ?_
    refine j_ifnonnull E 20 dX11_of_7 (by decide) ?_
    refine j_iload_n E dX11_of_20 3 rfl ?_
    by_cases c9 : v2 = 0
    · have h := h.1 c9
      refine j_tableIn E (47) 68 dX11_of_21 (by rw [c9]; decide) (by rw [c9]; decide) (by rw [c9]; rfl) (by decide) ?_
      refine j_aload_n E dX11_of_68 0 rfl ?_
      refine j_getiN E 5 5 rfl rfl (by decide) (by decide) (iw iT_5) rfl rfl (nw_5_5_X11_201) kb7 dX11_of_69 ?_
      exact j_ireturn E ⟨rfl, _, rfl, h⟩ (Nat.zero_le _) (Nat.zero_le _) dX11_of_72
    · have h := h.2 c9
      by_cases c10 : v2 = 1
      · have h := h.1 c10
        refine j_tableIn E (52) 73 dX11_of_21 (by rw [c10]; decide) (by rw [c10]; decide) (by rw [c10]; rfl) (by decide) ?_
        refine j_aload_n E dX11_of_73 0 rfl ?_
        refine j_getiN E 5 6 rfl rfl (by decide) (by decide) (iw iT_5) rfl rfl (nw_5_6_X11_204) kb7 dX11_of_74 ?_
        exact j_ireturn E ⟨rfl, _, rfl, h⟩ (Nat.zero_le _) (Nat.zero_le _) dX11_of_77
      · have h := h.2 c10
        by_cases c11 : v2 = 2
        · have h := h.1 c11
          refine j_tableIn E (57) 78 dX11_of_21 (by rw [c11]; decide) (by rw [c11]; decide) (by rw [c11]; rfl) (by decide) ?_
          refine j_aload_n E dX11_of_78 0 rfl ?_
          refine j_getiN E 5 7 rfl rfl (by decide) (by decide) (iw iT_5) rfl rfl (nw_5_7_X11_207) kb7 dX11_of_79 ?_
          exact j_ireturn E ⟨rfl, _, rfl, h⟩ (Nat.zero_le _) (Nat.zero_le _) dX11_of_82
        · have h := h.2 c11
          by_cases c12 : v2 = 3
          · have h := h.1 c12
            refine j_tableIn E (62) 83 dX11_of_21 (by rw [c12]; decide) (by rw [c12]; decide) (by rw [c12]; rfl) (by decide) ?_
            refine j_aload_n E dX11_of_83 0 rfl ?_
            refine j_getiN E 5 2 rfl rfl (by decide) (by decide) (iw iT_5) rfl rfl (nw_5_2_X11_210) kb7 dX11_of_84 ?_
            exact j_ireturn E ⟨rfl, _, rfl, h⟩ (Nat.zero_le _) (Nat.zero_le _) dX11_of_87
          · have h := h.2 c12
            by_cases c13 : v2 = 4
            · have h := h.1 c13
              refine j_tableIn E (67) 88 dX11_of_21 (by rw [c13]; decide) (by rw [c13]; decide) (by rw [c13]; rfl) (by decide) ?_
              refine j_aload_n E dX11_of_88 0 rfl ?_
              refine j_getiN E 5 3 rfl rfl (by decide) (by decide) (iw iT_5) rfl rfl (nw_5_3_X11_213) kb7 dX11_of_89 ?_
              exact j_ireturn E ⟨rfl, _, rfl, h⟩ (Nat.zero_le _) (Nat.zero_le _) dX11_of_92
            · have h := h.2 c13
              by_cases c14 : v2 = 5
              · have h := h.1 c14
                refine j_tableIn E (72) 93 dX11_of_21 (by rw [c14]; decide) (by rw [c14]; decide) (by rw [c14]; rfl) (by decide) ?_
                refine j_aload_n E dX11_of_93 0 rfl ?_
                refine j_getiN E 5 4 rfl rfl (by decide) (by decide) (iw iT_5) rfl rfl (nw_5_4_X11_196) kb7 dX11_of_94 ?_
                exact j_ireturn E ⟨rfl, _, rfl, h⟩ (Nat.zero_le _) (Nat.zero_le _) dX11_of_97
              · have h := h.2 c14
                by_cases c15 : v2 = 6
                · have h := h.1 c15
                  refine j_tableIn E (77) 98 dX11_of_21 (by rw [c15]; decide) (by rw [c15]; decide) (by rw [c15]; rfl) (by decide) ?_
                  refine j_aload_n E dX11_of_98 0 rfl ?_
                  refine j_getiN E 5 0 rfl rfl (by decide) (by decide) (iw iT_5) rfl rfl (nw_5_0_X11_216) kb7 dX11_of_99 ?_
                  exact j_ireturn E ⟨rfl, _, rfl, h⟩ (Nat.zero_le _) (Nat.zero_le _) dX11_of_102
                · have h := h.2 c15
                  by_cases c16 : v2 = 7
                  · have h := h.1 c16
                    refine j_tableIn E (82) 103 dX11_of_21 (by rw [c16]; decide) (by rw [c16]; decide) (by rw [c16]; rfl) (by decide) ?_
                    refine j_aload_n E dX11_of_103 0 rfl ?_
                    refine j_getiN E 5 1 rfl rfl (by decide) (by decide) (iw iT_5) rfl rfl (nw_5_1_X11_219) kb7 dX11_of_104 ?_
                    exact j_ireturn E ⟨rfl, _, rfl, h⟩ (Nat.zero_le _) (Nat.zero_le _) dX11_of_107
                  · have h := h.2 c16
                    refine j_tableOut E 108 dX11_of_21 (by have tc9 := lv_neT (k := 0) (a := 0) c9 rfl; have tc10 := lv_neT (k := 1) (a := 1) c10 rfl; have tc11 := lv_neT (k := 2) (a := 2) c11 rfl; have tc12 := lv_neT (k := 3) (a := 3) c12 rfl; have tc13 := lv_neT (k := 4) (a := 4) c13 rfl; have tc14 := lv_neT (k := 5) (a := 5) c14 rfl; have tc15 := lv_neT (k := 6) (a := 6) c15 rfl; have tc16 := lv_neT (k := 7) (a := 7) c16 rfl; omega) (by decide) ?_
                    exact j_throw E EX (w := 6) (is := 222) (text := "nothing such of a pilgrim") (by decide) W_449 W_450 ⟨by decide, by decide⟩ rfl (by decide) (by decide) ⟨rfl, h⟩ dX11_of_108 dX11_of_111 (Or.inl ⟨dX11_of_112, rfl⟩) dX11_of_114 dX11_of_117
set_option maxRecDepth 100000 in
def f_X11_tellNothing (v0 : Nat) (Z : jZ) (I : jI) (L : jL) (Q : jI → jL → Prop) : Prop := (∀ I1 : jI, I1 = jpI I v0 16 (0 : Int32) → Q I1 L)
set_option maxHeartbeats 4000000 in
set_option maxRecDepth 100000 in
theorem c_X11_tellNothing (l : Launch) (D : va_G) (cy : jC) (v0 : Nat) (Z : jZ) (I : jI) (L : jL) (Q : jI → jL → Prop) (hZ : SH Z) (kv0 : jk Z v0 11) (h : f_X11_tellNothing v0 Z I L Q) : jCt l yX11_tellNothing w_X11_tellNothing { frames := 0, cells := 0, slots := 0, locals := 0 } D cy [.ref v0] Z I L (rtV Z Q) := by
  refine jCt_of (cc := cX11_tellNothing) (maxL := 1) (ret := none) (by decide +kernel) rfl (Nat.le_of_ble_eq_true rfl) ?_
  intro G eD eY eL E
  subst eD; subst eY; subst eL
  have E : jE G cX11_tellNothing RX11 w_X11_tellNothing 1 none { frames := 0, cells := 0, slots := 0, locals := 0 } (rtV Z Q) := E
  show jJ G 1 0 [(0, .ref v0)] [] Z I L 0 0
  refine j_aload_n E dX11_tellNothing_0 0 rfl ?_
  refine j_iconst E (v := 0) dX11_tellNothing_1 (by decide) ?_
  refine j_puti E 11 16 rfl rfl (by decide) (by decide) (iw iT_11) tyX11_ok nmX11 rfl rfl (tw W_465) rfl rfl rfl kv0 dX11_tellNothing_2 ?_
  refine j_nmI (fun I1 eI1 => ?_)
  have h := h I1 eI1
  exact j_return E ⟨rfl, rfl, h⟩ (Nat.zero_le _) (Nat.zero_le _) dX11_tellNothing_5
set_option maxRecDepth 100000 in
def f_X11_tellMore (v0 : Nat) (v1 : Int64) (Z : jZ) (I : jI) (L : jL) (Q : jI → jL → Prop) : Prop := (∀ b1 : Nat, jr Z v0 15 = some b1 → (((26 : Int32) ≤ (I v0 16) → Q I L) ∧ (¬ ((26 : Int32) ≤ (I v0 16)) → (∀ b3 : Nat, jr Z v0 15 = some b3 → (vp_in (I v0 16) 26 ∧ (∀ L5 : jL, L5 = jpL L b3 (I v0 16).toNatClampNeg v1 → (∀ I6 : jI, I6 = jpI I v0 16 ((I v0 16) + (1 : Int32)) → Q I6 L5)))))))
set_option maxHeartbeats 4000000 in
set_option maxRecDepth 100000 in
theorem c_X11_tellMore (l : Launch) (D : va_G) (cy : jC) (v0 : Nat) (v1 : Int64) (Z : jZ) (I : jI) (L : jL) (Q : jI → jL → Prop) (hZ : SH Z) (kv0 : jk Z v0 11) (h : f_X11_tellMore v0 v1 Z I L Q) : jCt l yX11_tellMore w_X11_tellMore { frames := 0, cells := 0, slots := 0, locals := 0 } D cy [.ref v0, .long v1] Z I L (rtV Z Q) := by
  refine jCt_of (cc := cX11_tellMore) (maxL := 3) (ret := none) (by decide +kernel) rfl (Nat.le_of_ble_eq_true rfl) ?_
  intro G eD eY eL E
  subst eD; subst eY; subst eL
  have E : jE G cX11_tellMore RX11 w_X11_tellMore 3 none { frames := 0, cells := 0, slots := 0, locals := 0 } (rtV Z Q) := E
  show jJ G 3 0 [(0, .ref v0), (1, .long v1)] [] Z I L 0 0
  refine j_aload_n E dX11_tellMore_0 0 rfl ?_
  refine j_geti E 11 16 rfl rfl (by decide) (by decide) (iw iT_11) rfl rfl (tw W_465) kv0 dX11_tellMore_1 ?_
  refine j_aload_n E dX11_tellMore_4 0 rfl ?_
  obtain ⟨b1, eb1, kb1, lb1⟩ := sh_f hZ kv0 (j := 15) (k := 15) (m := 26) rfl
  have h := h b1 eb1
  refine j_getr E 11 15 rfl rfl (by decide) (by decide) (iw iT_11) rfl rfl (tw W_466) kv0 eb1 dX11_tellMore_5 ?_
  refine j_alen15 E (v := 26) kb1 (by rw [lb1]; rfl) dX11_tellMore_8 ?_
  refine j_icmp_ge E 32 dX11_tellMore_9 (by decide) (fun c2 => ?_) (fun c2 => ?_)
  · have h := h.1 c2
    exact j_return E ⟨rfl, rfl, h⟩ (Nat.zero_le _) (Nat.zero_le _) dX11_tellMore_32
  · have h := h.2 c2
    refine j_aload_n E dX11_tellMore_12 0 rfl ?_
    obtain ⟨b3, eb3, kb3, lb3⟩ := sh_f hZ kv0 (j := 15) (k := 15) (m := 26) rfl
    have h := h b3 eb3
    refine j_getr E 11 15 rfl rfl (by decide) (by decide) (iw iT_11) rfl rfl (tw W_466) kv0 eb3 dX11_tellMore_13 ?_
    refine j_aload_n E dX11_tellMore_16 0 rfl ?_
    refine j_geti E 11 16 rfl rfl (by decide) (by decide) (iw iT_11) rfl rfl (tw W_465) kv0 dX11_tellMore_17 ?_
    refine j_lload_n E dX11_tellMore_20 1 rfl ?_
    obtain ⟨o4, h⟩ := h
    refine j_last E kb3 (by rw [lb3]; exact o4) dX11_tellMore_21 ?_
    refine j_nmL (fun L5 eL5 => ?_)
    have h := h L5 eL5
    refine j_aload_n E dX11_tellMore_22 0 rfl ?_
    refine j_dup E dX11_tellMore_23 rfl ?_
    refine j_geti E 11 16 rfl rfl (by decide) (by decide) (iw iT_11) rfl rfl (tw W_465) kv0 dX11_tellMore_24 ?_
    refine j_iconst E (v := 1) dX11_tellMore_27 (by decide) ?_
    refine j_iadd E dX11_tellMore_28 ?_
    refine j_puti E 11 16 rfl rfl (by decide) (by decide) (iw iT_11) tyX11_ok nmX11 rfl rfl (tw W_465) rfl rfl rfl kv0 dX11_tellMore_29 ?_
    refine j_nmI (fun I6 eI6 => ?_)
    have h := h I6 eI6
    exact j_return E ⟨rfl, rfl, h⟩ (Nat.zero_le _) (Nat.zero_le _) dX11_tellMore_32
set_option maxRecDepth 100000 in
def f_X11_tellOne (v0 : Nat) (v1 : Int64) (Z : jZ) (I : jI) (L : jL) (Q : jI → jL → Prop) : Prop := (f_X11_tellNothing v0 Z I L (fun I3 L4 => (f_X11_tellMore v0 v1 Z I3 L4 (fun I8 L9 => Q I8 L9))))
set_option maxHeartbeats 4000000 in
set_option maxRecDepth 100000 in
theorem c_X11_tellOne (l : Launch) (D : va_G) (cy : jC) (v0 : Nat) (v1 : Int64) (Z : jZ) (I : jI) (L : jL) (Q : jI → jL → Prop) (hZ : SH Z) (kv0 : jk Z v0 11) (h : f_X11_tellOne v0 v1 Z I L Q) : jCt l yX11_tellOne w_X11_tellOne { frames := 1, cells := 0, slots := 0, locals := 22 } D cy [.ref v0, .long v1] Z I L (rtV Z Q) := by
  refine jCt_of (cc := cX11_tellOne) (maxL := 3) (ret := none) (by decide +kernel) rfl (Nat.le_of_ble_eq_true rfl) ?_
  intro G eD eY eL E
  subst eD; subst eY; subst eL
  have E : jE G cX11_tellOne RX11 w_X11_tellOne 3 none { frames := 1, cells := 0, slots := 0, locals := 22 } (rtV Z Q) := E
  show jJ G 3 0 [(0, .ref v0), (1, .long v1)] [] Z I L 0 0
  refine j_aload_n E dX11_tellOne_0 0 rfl ?_
  refine j_callV E [] [] (c_X11_tellNothing (gL G) (gD G) (gY G) v0 Z I L _ hZ kv0 h) (gwV W_468 W_469 W_470 W_28 W_467) rfl ⟨rfl, fy_X11_tellNothing⟩ ⟨by decide, by decide⟩ (c := 11) rfl (by decide) kv0 rfl rfl (Nat.le_of_ble_eq_true rfl) ⟨Nat.zero_le _, Nat.zero_le _⟩ dX11_tellOne_1 (fun v1 Z2 I3 L4 q5 => ?_)
  obtain ⟨rfl, rfl, h⟩ := q5
  show jJ G 3 4 [(0, .ref v0), (1, .long v1)] [] Z I3 L4 0 0
  refine j_aload_n E dX11_tellOne_4 0 rfl ?_
  refine j_lload_n E dX11_tellOne_5 1 rfl ?_
  refine j_callV E [.long v1] [] (c_X11_tellMore (gL G) (gD G) (gY G) v0 v1 Z I3 L4 _ hZ kv0 h) (gwV W_472 W_473 W_474 W_28 W_471) rfl ⟨rfl, fy_X11_tellMore⟩ ⟨by decide, by decide⟩ (c := 11) rfl (by decide) kv0 rfl rfl (Nat.le_of_ble_eq_true rfl) ⟨Nat.zero_le _, Nat.zero_le _⟩ dX11_tellOne_6 (fun v6 Z7 I8 L9 q10 => ?_)
  obtain ⟨rfl, rfl, h⟩ := q10
  show jJ G 3 9 [(0, .ref v0), (1, .long v1)] [] Z I8 L9 0 0
  exact j_return E ⟨rfl, rfl, h⟩ (Nat.zero_le _) (Nat.zero_le _) dX11_tellOne_9
set_option maxRecDepth 100000 in
def f_X11_tellTwo (v0 : Nat) (v1 : Int64) (v3 : Int64) (Z : jZ) (I : jI) (L : jL) (Q : jI → jL → Prop) : Prop := (f_X11_tellOne v0 v1 Z I L (fun I3 L4 => (f_X11_tellMore v0 v3 Z I3 L4 (fun I8 L9 => Q I8 L9))))
set_option maxHeartbeats 4000000 in
set_option maxRecDepth 100000 in
theorem c_X11_tellTwo (l : Launch) (D : va_G) (cy : jC) (v0 : Nat) (v1 : Int64) (v3 : Int64) (Z : jZ) (I : jI) (L : jL) (Q : jI → jL → Prop) (hZ : SH Z) (kv0 : jk Z v0 11) (h : f_X11_tellTwo v0 v1 v3 Z I L Q) : jCt l yX11_tellTwo w_X11_tellTwo { frames := 2, cells := 0, slots := 0, locals := 44 } D cy [.ref v0, .long v1, .long v3] Z I L (rtV Z Q) := by
  refine jCt_of (cc := cX11_tellTwo) (maxL := 5) (ret := none) (by decide +kernel) rfl (Nat.le_of_ble_eq_true rfl) ?_
  intro G eD eY eL E
  subst eD; subst eY; subst eL
  have E : jE G cX11_tellTwo RX11 w_X11_tellTwo 5 none { frames := 2, cells := 0, slots := 0, locals := 44 } (rtV Z Q) := E
  show jJ G 5 0 [(0, .ref v0), (1, .long v1), (3, .long v3)] [] Z I L 0 0
  refine j_aload_n E dX11_tellTwo_0 0 rfl ?_
  refine j_lload_n E dX11_tellTwo_1 1 rfl ?_
  refine j_callV E [.long v1] [] (c_X11_tellOne (gL G) (gD G) (gY G) v0 v1 Z I L _ hZ kv0 h) (gwV W_476 W_477 W_478 W_28 W_475) rfl ⟨rfl, fy_X11_tellOne⟩ ⟨by decide, by decide⟩ (c := 11) rfl (by decide) kv0 rfl rfl (Nat.le_of_ble_eq_true rfl) ⟨Nat.zero_le _, Nat.zero_le _⟩ dX11_tellTwo_2 (fun v1 Z2 I3 L4 q5 => ?_)
  obtain ⟨rfl, rfl, h⟩ := q5
  show jJ G 5 5 [(0, .ref v0), (1, .long v1), (3, .long v3)] [] Z I3 L4 0 0
  refine j_aload_n E dX11_tellTwo_5 0 rfl ?_
  refine j_lload_n E dX11_tellTwo_6 2 rfl ?_
  refine j_callV E [.long v3] [] (c_X11_tellMore (gL G) (gD G) (gY G) v0 v3 Z I3 L4 _ hZ kv0 h) (gwV W_472 W_473 W_474 W_28 W_471) rfl ⟨rfl, fy_X11_tellMore⟩ ⟨by decide, by decide⟩ (c := 11) rfl (by decide) kv0 rfl rfl (Nat.le_of_ble_eq_true rfl) ⟨Nat.zero_le _, Nat.zero_le _⟩ dX11_tellTwo_7 (fun v6 Z7 I8 L9 q10 => ?_)
  obtain ⟨rfl, rfl, h⟩ := q10
  show jJ G 5 10 [(0, .ref v0), (1, .long v1), (3, .long v3)] [] Z I8 L9 0 0
  exact j_return E ⟨rfl, rfl, h⟩ (Nat.zero_le _) (Nat.zero_le _) dX11_tellTwo_10
set_option maxRecDepth 100000 in
def f_X11_costs (v0 : Nat) (v1 : Int32) (v2 : Int32) (Z : jZ) (I : jI) (L : jL) (Q : Int32 → jI → jL → Prop) : Prop := (f_X11_find v0 v1 Z I L (fun r6 I3 L4 => ((r6 = none → Q (-1 : Int32) I3 L4) ∧ (∀ b7 : Nat, r6 = some b7 → (∀ b9 : Nat, jr Z v0 2 = some b9 → (f_X8_has b9 v2 Z I3 L4 (fun r15 I12 L13 => ((¬ r15 = 0 → (f_X5_comesTo b7 v2 Z I12 L13 (fun r22 I19 L20 => ((¬ r22 = 0 → (∀ b24 : Nat, jr Z v0 2 = some b24 → (f_X8_effortOfMove b24 (I19 b7 5) v2 (I19 b7 3) Z I19 L20 (fun r30 I27 L28 => (f_X11_tellTwo v0 (r30.toInt64) (((v2 - (I27 b7 5)) - (1 : Int32)).toInt64) Z I27 L28 (fun I33 L34 => (∀ b36 : Nat, jr Z v0 2 = some b36 → (f_X8_costOfMove b36 (I33 b7 5) v2 (I33 b7 3) Z I33 L34 (fun r42 I39 L40 => Q r42 I39 L40))))))))) ∧ (r22 = 0 → Q (-2 : Int32) I19 L20))))) ∧ (r15 = 0 → Q (-1 : Int32) I12 L13)))))))))
set_option maxHeartbeats 4000000 in
set_option maxRecDepth 100000 in
theorem c_X11_costs (l : Launch) (D : va_G) (cy : jC) (v0 : Nat) (v1 : Int32) (v2 : Int32) (Z : jZ) (I : jI) (L : jL) (Q : Int32 → jI → jL → Prop) (hZ : SH Z) (kv0 : jk Z v0 11) (h : f_X11_costs v0 v1 v2 Z I L Q) : jCt l yX11_costs w_X11_costs { frames := 4, cells := 0, slots := 0, locals := 100 } D cy [.ref v0, .int v1, .int v2] Z I L (rtI Z Q) := by
  refine jCt_of (cc := cX11_costs) (maxL := 4) (ret := (some .int)) (by decide +kernel) rfl (Nat.le_of_ble_eq_true rfl) ?_
  intro G eD eY eL E
  subst eD; subst eY; subst eL
  have E : jE G cX11_costs RX11 w_X11_costs 4 (some .int) { frames := 4, cells := 0, slots := 0, locals := 100 } (rtI Z Q) := E
  show jJ G 4 0 [(0, .ref v0), (1, .int v1), (2, .int v2)] [] Z I L 0 0
  refine j_aload_n E dX11_costs_0 0 rfl ?_
  refine j_iload_n E dX11_costs_1 1 rfl ?_
  refine j_callV E [.int v1] [] (c_X11_find (gL G) (gD G) (gY G) v0 v1 Z I L _ hZ kv0 h) (gwV W_421 W_422 W_423 W_28 W_420) rfl ⟨rfl, fy_X11_find⟩ ⟨by decide, by decide⟩ (c := 11) rfl (by decide) kv0 rfl rfl (Nat.le_of_ble_eq_true rfl) ⟨Nat.zero_le _, Nat.zero_le _⟩ dX11_costs_2 (fun v1 Z2 I3 L4 q5 => ?_)
  obtain ⟨rfl, r6, rfl, zr6, h⟩ := q5
  show jJ G 4 5 [(0, .ref v0), (1, .int v1), (2, .int v2)] (va_rf r6 :: []) Z I3 L4 0 0
  rcases c8 : r6 with _ | b7
  · have h := h.1 c8
    refine j_rfN rfl ?_
    refine j_astore_nN E 3 [(3, .null), (0, .ref v0), (1, .int v1), (2, .int v2)] dX11_costs_5 rfl (by decide) rfl ?_
    refine j_aload_nN E dX11_costs_6 0 rfl ?_
    refine j_ifnullN E 21 dX11_costs_7 (by decide) ?_
    refine j_iconst E (v := -1) dX11_costs_21 (by decide) ?_
    exact j_ireturn E ⟨rfl, _, rfl, h⟩ (Nat.zero_le _) (Nat.zero_le _) dX11_costs_22
  · have h := h.2 b7 c8
    have kb7 := zr6 b7 c8
    refine j_rfS rfl ?_
    refine j_astore_n E 3 [(3, .ref b7), (0, .ref v0), (1, .int v1), (2, .int v2)] dX11_costs_5 rfl (by decide) rfl ?_
    refine j_aload_n E dX11_costs_6 0 rfl ?_
    refine j_ifnull E dX11_costs_7 ?_
    refine j_aload_n E dX11_costs_10 1 rfl ?_
    obtain ⟨b9, eb9, kb9⟩ := sh_o hZ kv0 (j := 2) (k := 8) rfl
    have h := h b9 eb9
    refine j_getr E 11 2 rfl rfl (by decide) (by decide) (iw iT_11) rfl rfl (tw W_438) kv0 eb9 dX11_costs_11 ?_
    refine j_iload_n E dX11_costs_14 3 rfl ?_
    refine j_callV E [.int v2] [] (c_X8_has (gL G) (gD G) (gY G) b9 v2 Z I3 L4 _ hZ kb9 h) (gwV W_447 W_250 W_251 W_248 W_247) rfl ⟨rfl, fy_X8_has⟩ ⟨by decide, by decide⟩ (c := 8) rfl (by decide) kb9 rfl rfl (Nat.le_of_ble_eq_true rfl) ⟨Nat.zero_le _, Nat.zero_le _⟩ dX11_costs_15 (fun v10 Z11 I12 L13 q14 => ?_)
    obtain ⟨rfl, r15, rfl, zr15, h⟩ := q14
    show jJ G 4 18 [(3, .ref b7), (0, .ref v0), (1, .int v1), (2, .int v2)] [.int r15] Z I12 L13 0 0
    refine j_if_ne E 23 dX11_costs_18 (by decide) (fun c16 => ?_) (fun c16 => ?_)
    · have h := h.1 c16
      refine j_aload_n E dX11_costs_23 0 rfl ?_
      refine j_iload_n E dX11_costs_24 3 rfl ?_
      refine j_callV E [.int v2] [] (c_X5_comesTo (gL G) (gD G) (gY G) b7 v2 Z I12 L13 _ hZ kb7 h) (gwV W_480 W_481 W_482 W_425 W_479) rfl ⟨rfl, fy_X5_comesTo⟩ ⟨by decide, by decide⟩ (c := 5) rfl (by decide) kb7 rfl rfl (Nat.le_of_ble_eq_true rfl) ⟨Nat.zero_le _, Nat.zero_le _⟩ dX11_costs_25 (fun v17 Z18 I19 L20 q21 => ?_)
      obtain ⟨rfl, r22, rfl, zr22, h⟩ := q21
      show jJ G 4 28 [(3, .ref b7), (0, .ref v0), (1, .int v1), (2, .int v2)] [.int r22] Z I19 L20 0 0
      refine j_if_ne E 34 dX11_costs_28 (by decide) (fun c23 => ?_) (fun c23 => ?_)
      · have h := h.1 c23
        refine j_aload_n E dX11_costs_34 1 rfl ?_
        refine j_aload_n E dX11_costs_35 1 rfl ?_
        obtain ⟨b24, eb24, kb24⟩ := sh_o hZ kv0 (j := 2) (k := 8) rfl
        have h := h b24 eb24
        refine j_getr E 11 2 rfl rfl (by decide) (by decide) (iw iT_11) rfl rfl (tw W_438) kv0 eb24 dX11_costs_36 ?_
        refine j_aload_n E dX11_costs_39 0 rfl ?_
        refine j_getiN E 5 5 rfl rfl (by decide) (by decide) (iw iT_5) rfl rfl (nw_5_5_X11_201) kb7 dX11_costs_40 ?_
        refine j_iload_n E dX11_costs_43 3 rfl ?_
        refine j_aload_n E dX11_costs_44 0 rfl ?_
        refine j_getiN E 5 3 rfl rfl (by decide) (by decide) (iw iT_5) rfl rfl (nw_5_3_X11_213) kb7 dX11_costs_45 ?_
        refine j_callV E [.int (I19 b7 5), .int v2, .int (I19 b7 3)] [.ref v0] (c_X8_effortOfMove (gL G) (gD G) (gY G) b24 (I19 b7 5) v2 (I19 b7 3) Z I19 L20 _ hZ kb24 h) (gwV W_483 W_288 W_289 W_248 W_286) rfl ⟨rfl, fy_X8_effortOfMove⟩ ⟨by decide, by decide⟩ (c := 8) rfl (by decide) kb24 rfl rfl (Nat.le_of_ble_eq_true rfl) ⟨Nat.zero_le _, Nat.zero_le _⟩ dX11_costs_48 (fun v25 Z26 I27 L28 q29 => ?_)
        obtain ⟨rfl, r30, rfl, h⟩ := q29
        show jJ G 4 51 [(3, .ref b7), (0, .ref v0), (1, .int v1), (2, .int v2)] [.int r30, .ref v0] Z I27 L28 0 0
        refine j_i2l E dX11_costs_51 ?_
        refine j_iload_n E dX11_costs_52 3 rfl ?_
        refine j_aload_n E dX11_costs_53 0 rfl ?_
        refine j_getiN E 5 5 rfl rfl (by decide) (by decide) (iw iT_5) rfl rfl (nw_5_5_X11_201) kb7 dX11_costs_54 ?_
        refine j_isub E dX11_costs_57 ?_
        refine j_iconst E (v := 1) dX11_costs_58 (by decide) ?_
        refine j_isub E dX11_costs_59 ?_
        refine j_i2l E dX11_costs_60 ?_
        refine j_callV E [.long (r30.toInt64), .long (((v2 - (I27 b7 5)) - (1 : Int32)).toInt64)] [] (c_X11_tellTwo (gL G) (gD G) (gY G) v0 (r30.toInt64) (((v2 - (I27 b7 5)) - (1 : Int32)).toInt64) Z I27 L28 _ hZ kv0 h) (gwV W_485 W_486 W_487 W_28 W_484) rfl ⟨rfl, fy_X11_tellTwo⟩ ⟨by decide, by decide⟩ (c := 11) rfl (by decide) kv0 rfl rfl (Nat.le_of_ble_eq_true rfl) ⟨Nat.zero_le _, Nat.zero_le _⟩ dX11_costs_61 (fun v31 Z32 I33 L34 q35 => ?_)
        obtain ⟨rfl, rfl, h⟩ := q35
        show jJ G 4 64 [(3, .ref b7), (0, .ref v0), (1, .int v1), (2, .int v2)] [] Z I33 L34 0 0
        refine j_aload_n E dX11_costs_64 1 rfl ?_
        obtain ⟨b36, eb36, kb36⟩ := sh_o hZ kv0 (j := 2) (k := 8) rfl
        have h := h b36 eb36
        refine j_getr E 11 2 rfl rfl (by decide) (by decide) (iw iT_11) rfl rfl (tw W_438) kv0 eb36 dX11_costs_65 ?_
        refine j_aload_n E dX11_costs_68 0 rfl ?_
        refine j_getiN E 5 5 rfl rfl (by decide) (by decide) (iw iT_5) rfl rfl (nw_5_5_X11_201) kb7 dX11_costs_69 ?_
        refine j_iload_n E dX11_costs_72 3 rfl ?_
        refine j_aload_n E dX11_costs_73 0 rfl ?_
        refine j_getiN E 5 3 rfl rfl (by decide) (by decide) (iw iT_5) rfl rfl (nw_5_3_X11_213) kb7 dX11_costs_74 ?_
        refine j_callV E [.int (I33 b7 5), .int v2, .int (I33 b7 3)] [] (c_X8_costOfMove (gL G) (gD G) (gY G) b36 (I33 b7 5) v2 (I33 b7 3) Z I33 L34 _ hZ kb36 h) (gwV W_488 W_284 W_285 W_248 W_282) rfl ⟨rfl, fy_X8_costOfMove⟩ ⟨by decide, by decide⟩ (c := 8) rfl (by decide) kb36 rfl rfl (Nat.le_of_ble_eq_true rfl) ⟨Nat.zero_le _, Nat.zero_le _⟩ dX11_costs_77 (fun v37 Z38 I39 L40 q41 => ?_)
        obtain ⟨rfl, r42, rfl, h⟩ := q41
        show jJ G 4 80 [(3, .ref b7), (0, .ref v0), (1, .int v1), (2, .int v2)] [.int r42] Z I39 L40 0 0
        exact j_ireturn E ⟨rfl, _, rfl, h⟩ (Nat.zero_le _) (Nat.zero_le _) dX11_costs_80
      · have h := h.2 c23
        refine j_bipush E (v := -2) dX11_costs_31 (by decide) ?_
        exact j_ireturn E ⟨rfl, _, rfl, h⟩ (Nat.zero_le _) (Nat.zero_le _) dX11_costs_33
    · have h := h.2 c16
      refine j_iconst E (v := -1) dX11_costs_21 (by decide) ?_
      exact j_ireturn E ⟨rfl, _, rfl, h⟩ (Nat.zero_le _) (Nat.zero_le _) dX11_costs_22
set_option maxRecDepth 100000 in
def f_X11_divide_b123 (K73 : Nat → Int32 → Int32 → jI → jL → Prop) (K92 : Nat → Int32 → Int32 → Int32 → Int32 → jI → jL → Prop) (Z : jZ) (Q : jI → jL → Prop) (v0 : Nat) (v3 : Int32) (v4 : Int32) (v6 : Int32) (s0 : Int32) (I : jI) (L : jL) : Prop := (∀ x1 : Int32, x1 = v6 + 1 → K92 v0 v3 v4 s0 x1 I L)
set_option maxHeartbeats 4000000 in
set_option maxRecDepth 100000 in
theorem m_X11_divide_b123 {G : jG} {Z : jZ} {Q : jI → jL → Prop} (E : jE G cX11_divide RX11 w_X11_divide 7 none { frames := 0, cells := 0, slots := 0, locals := 0 } (rtV Z Q)) (hZ : SH Z) (K73 : Nat → Int32 → Int32 → jI → jL → Prop) (hK73 : ∀ (v0 : Nat) (v3 : Int32) (v4 : Int32) (I : jI) (L : jL), jk Z v0 11 → K73 v0 v3 v4 I L → jJ G 7 73 [(0, .ref v0), (3, .int v3), (4, .int v4)] [] Z I L 0 0) (K92 : Nat → Int32 → Int32 → Int32 → Int32 → jI → jL → Prop) (hK92 : ∀ (v0 : Nat) (v3 : Int32) (v4 : Int32) (v5 : Int32) (v6 : Int32) (I : jI) (L : jL), jk Z v0 11 → K92 v0 v3 v4 v5 v6 I L → jJ G 7 92 [(0, .ref v0), (3, .int v3), (4, .int v4), (5, .int v5), (6, .int v6)] [] Z I L 0 0) (v0 : Nat) (v3 : Int32) (v4 : Int32) (v6 : Int32) (s0 : Int32) (I : jI) (L : jL) (kv0 : jk Z v0 11) (h : f_X11_divide_b123 K73 K92 Z Q v0 v3 v4 v6 s0 I L) : jJ G 7 123 [(0, .ref v0), (3, .int v3), (4, .int v4), (6, .int v6)] [.int s0] Z I L 0 0 := by
  refine j_istore E 5 [(5, .int s0), (0, .ref v0), (3, .int v3), (4, .int v4), (6, .int v6)] dX11_divide_123 (by decide) rfl ?_
  obtain ⟨x1, ex1⟩ : ∃ y : Int32, y = v6 + 1 := ⟨_, rfl⟩
  have h := h x1 ex1
  refine j_iinc E x1 [(6, .int x1), (5, .int s0), (0, .ref v0), (3, .int v3), (4, .int v4)] dX11_divide_125 4 rfl (by rw [ex1]; rfl) (by decide) rfl ?_
  refine j_goto E 92 dX11_divide_128 (by decide) ?_
  refine j_sub [2, 3, 4, 1, 0] rfl ?_
  exact hK92 v0 v3 v4 s0 x1 I L kv0 h
set_option maxRecDepth 100000 in
def f_X11_divide_L92 (K73 : Nat → Int32 → Int32 → jI → jL → Prop) (Z : jZ) (Q : jI → jL → Prop) : Nat → Nat → Int32 → Int32 → Int32 → Int32 → jI → jL → Prop
  | 0 => fun _ _ _ _ _ _ _ => False
  | n + 1 => fun v0 v3 v4 v5 v6 I L => (((8 : Int32) ≤ v6 → (∀ b3 : Nat, jr Z v0 6 = some b3 → (vp_in v5 8 ∧ (vp_in v5 8 ∧ (∀ I6 : jI, I6 = jpI I b3 v5.toNatClampNeg ((I b3 v5.toNatClampNeg) + (1 : Int32)) → (∀ b7 : Nat, jr Z v0 7 = some b7 → (vp_in v5 8 ∧ (∀ I9 : jI, I9 = jpI I6 b7 v5.toNatClampNeg (-1 : Int32) → (∀ x10 : Int32, x10 = v4 + 1 → K73 v0 v3 x10 I9 L))))))))) ∧ (¬ ((8 : Int32) ≤ v6) → (∀ b11 : Nat, jr Z v0 7 = some b11 → (vp_in v6 8 ∧ (∀ b13 : Nat, jr Z v0 7 = some b13 → (vp_in v5 8 ∧ (((I b11 v6.toNatClampNeg) ≤ (I b13 v5.toNatClampNeg) → f_X11_divide_b123 K73 (f_X11_divide_L92 K73 Z Q n) Z Q v0 v3 v4 v6 v5 I L) ∧ (¬ ((I b11 v6.toNatClampNeg) ≤ (I b13 v5.toNatClampNeg)) → f_X11_divide_b123 K73 (f_X11_divide_L92 K73 Z Q n) Z Q v0 v3 v4 v6 v6 I L))))))))
set_option maxHeartbeats 4000000 in
set_option maxRecDepth 100000 in
theorem m_X11_divide_L92 {G : jG} {Z : jZ} {Q : jI → jL → Prop} (E : jE G cX11_divide RX11 w_X11_divide 7 none { frames := 0, cells := 0, slots := 0, locals := 0 } (rtV Z Q)) (hZ : SH Z) (K73 : Nat → Int32 → Int32 → jI → jL → Prop) (hK73 : ∀ (v0 : Nat) (v3 : Int32) (v4 : Int32) (I : jI) (L : jL), jk Z v0 11 → K73 v0 v3 v4 I L → jJ G 7 73 [(0, .ref v0), (3, .int v3), (4, .int v4)] [] Z I L 0 0) : ∀ (n : Nat) (v0 : Nat) (v3 : Int32) (v4 : Int32) (v5 : Int32) (v6 : Int32) (I : jI) (L : jL), jk Z v0 11 → f_X11_divide_L92 K73 Z Q n v0 v3 v4 v5 v6 I L → jJ G 7 92 [(0, .ref v0), (3, .int v3), (4, .int v4), (5, .int v5), (6, .int v6)] [] Z I L 0 0 := by
  intro n
  induction n with
  | zero => intro v0 v3 v4 v5 v6 I L _ h; exact h.elim
  | succ n ih =>
    intro v0 v3 v4 v5 v6 I L kv0 h
    have h : (((8 : Int32) ≤ v6 → (∀ b3 : Nat, jr Z v0 6 = some b3 → (vp_in v5 8 ∧ (vp_in v5 8 ∧ (∀ I6 : jI, I6 = jpI I b3 v5.toNatClampNeg ((I b3 v5.toNatClampNeg) + (1 : Int32)) → (∀ b7 : Nat, jr Z v0 7 = some b7 → (vp_in v5 8 ∧ (∀ I9 : jI, I9 = jpI I6 b7 v5.toNatClampNeg (-1 : Int32) → (∀ x10 : Int32, x10 = v4 + 1 → K73 v0 v3 x10 I9 L))))))))) ∧ (¬ ((8 : Int32) ≤ v6) → (∀ b11 : Nat, jr Z v0 7 = some b11 → (vp_in v6 8 ∧ (∀ b13 : Nat, jr Z v0 7 = some b13 → (vp_in v5 8 ∧ (((I b11 v6.toNatClampNeg) ≤ (I b13 v5.toNatClampNeg) → f_X11_divide_b123 K73 (f_X11_divide_L92 K73 Z Q n) Z Q v0 v3 v4 v6 v5 I L) ∧ (¬ ((I b11 v6.toNatClampNeg) ≤ (I b13 v5.toNatClampNeg)) → f_X11_divide_b123 K73 (f_X11_divide_L92 K73 Z Q n) Z Q v0 v3 v4 v6 v6 I L)))))))) := h
    obtain ⟨K92, eK92⟩ : ∃ K : Nat → Int32 → Int32 → Int32 → Int32 → jI → jL → Prop, K = f_X11_divide_L92 K73 Z Q n := ⟨_, rfl⟩
    have hK92 := ih
    clear eK92 K92
    generalize f_X11_divide_L92 K73 Z Q n = K92 at hK92 h
    refine j_iload E dX11_divide_92 4 rfl ?_
    refine j_bipush E (v := 8) dX11_divide_94 (by decide) ?_
    refine j_icmp_ge E 131 dX11_divide_96 (by decide) (fun c2 => ?_) (fun c2 => ?_)
    · have h := h.1 c2
      refine j_aload_n E dX11_divide_131 0 rfl ?_
      obtain ⟨b3, eb3, kb3, lb3⟩ := sh_f hZ kv0 (j := 6) (k := 14) (m := 8) rfl
      have h := h b3 eb3
      refine j_getr E 11 6 rfl rfl (by decide) (by decide) (iw iT_11) rfl rfl (tw W_489) kv0 eb3 dX11_divide_132 ?_
      refine j_iload E dX11_divide_135 3 rfl ?_
      refine j_dup2_11 E dX11_divide_137 rfl rfl ?_
      obtain ⟨o4, h⟩ := h
      refine j_iald E kb3 (by rw [lb3]; exact o4) dX11_divide_138 ?_
      refine j_iconst E (v := 1) dX11_divide_139 (by decide) ?_
      refine j_iadd E dX11_divide_140 ?_
      obtain ⟨o5, h⟩ := h
      refine j_iast E kb3 (by rw [lb3]; exact o5) dX11_divide_141 ?_
      refine j_nmI (fun I6 eI6 => ?_)
      have h := h I6 eI6
      refine j_aload_n E dX11_divide_142 0 rfl ?_
      obtain ⟨b7, eb7, kb7, lb7⟩ := sh_f hZ kv0 (j := 7) (k := 14) (m := 8) rfl
      have h := h b7 eb7
      refine j_getr E 11 7 rfl rfl (by decide) (by decide) (iw iT_11) rfl rfl (tw W_490) kv0 eb7 dX11_divide_143 ?_
      refine j_iload E dX11_divide_146 3 rfl ?_
      refine j_iconst E (v := -1) dX11_divide_148 (by decide) ?_
      obtain ⟨o8, h⟩ := h
      refine j_iast E kb7 (by rw [lb7]; exact o8) dX11_divide_149 ?_
      refine j_nmI (fun I9 eI9 => ?_)
      have h := h I9 eI9
      obtain ⟨x10, ex10⟩ : ∃ y : Int32, y = v4 + 1 := ⟨_, rfl⟩
      have h := h x10 ex10
      refine j_iinc E x10 [(4, .int x10), (0, .ref v0), (3, .int v3), (5, .int v5), (6, .int v6)] dX11_divide_150 2 rfl (by rw [ex10]; rfl) (by decide) rfl ?_
      refine j_goto E 73 dX11_divide_153 (by decide) ?_
      refine j_sub [1, 2, 0] rfl ?_
      exact hK73 v0 v3 x10 I9 L kv0 h
    · have h := h.2 c2
      refine j_aload_n E dX11_divide_99 0 rfl ?_
      obtain ⟨b11, eb11, kb11, lb11⟩ := sh_f hZ kv0 (j := 7) (k := 14) (m := 8) rfl
      have h := h b11 eb11
      refine j_getr E 11 7 rfl rfl (by decide) (by decide) (iw iT_11) rfl rfl (tw W_490) kv0 eb11 dX11_divide_100 ?_
      refine j_iload E dX11_divide_103 4 rfl ?_
      obtain ⟨o12, h⟩ := h
      refine j_iald E kb11 (by rw [lb11]; exact o12) dX11_divide_105 ?_
      refine j_aload_n E dX11_divide_106 0 rfl ?_
      obtain ⟨b13, eb13, kb13, lb13⟩ := sh_f hZ kv0 (j := 7) (k := 14) (m := 8) rfl
      have h := h b13 eb13
      refine j_getr E 11 7 rfl rfl (by decide) (by decide) (iw iT_11) rfl rfl (tw W_490) kv0 eb13 dX11_divide_107 ?_
      refine j_iload E dX11_divide_110 3 rfl ?_
      obtain ⟨o14, h⟩ := h
      refine j_iald E kb13 (by rw [lb13]; exact o14) dX11_divide_112 ?_
      refine j_icmp_le E 121 dX11_divide_113 (by decide) (fun c15 => ?_) (fun c15 => ?_)
      · have h := h.1 c15
        refine j_iload E dX11_divide_121 3 rfl ?_
        refine j_sub [0, 1, 2, 4] rfl ?_
        exact m_X11_divide_b123 E hZ K73 hK73 K92 hK92 v0 v3 v4 v6 v5 I L kv0 h
      · have h := h.2 c15
        refine j_iload E dX11_divide_116 4 rfl ?_
        refine j_goto E 123 dX11_divide_118 (by decide) ?_
        refine j_sub [0, 1, 2, 4] rfl ?_
        exact m_X11_divide_b123 E hZ K73 hK73 K92 hK92 v0 v3 v4 v6 v6 I L kv0 h
set_option maxRecDepth 100000 in
def f_X11_divide_L73  (Z : jZ) (Q : jI → jL → Prop) : Nat → Nat → Int32 → Int32 → jI → jL → Prop
  | 0 => fun _ _ _ _ _ => False
  | n + 1 => fun v0 v3 v4 I L => ((v3 ≤ v4 → Q I L) ∧ (¬ (v3 ≤ v4) → (((8 : Int32) ≤ v4 → Q I L) ∧ (¬ ((8 : Int32) ≤ v4) → (∃ m92 : Nat, f_X11_divide_L92 (f_X11_divide_L73 Z Q n) Z Q m92 v0 v3 v4 (0 : Int32) (1 : Int32) I L)))))
set_option maxHeartbeats 4000000 in
set_option maxRecDepth 100000 in
theorem m_X11_divide_L73 {G : jG} {Z : jZ} {Q : jI → jL → Prop} (E : jE G cX11_divide RX11 w_X11_divide 7 none { frames := 0, cells := 0, slots := 0, locals := 0 } (rtV Z Q)) (hZ : SH Z)  : ∀ (n : Nat) (v0 : Nat) (v3 : Int32) (v4 : Int32) (I : jI) (L : jL), jk Z v0 11 → f_X11_divide_L73  Z Q n v0 v3 v4 I L → jJ G 7 73 [(0, .ref v0), (3, .int v3), (4, .int v4)] [] Z I L 0 0 := by
  intro n
  induction n with
  | zero => intro v0 v3 v4 I L _ h; exact h.elim
  | succ n ih =>
    intro v0 v3 v4 I L kv0 h
    have h : ((v3 ≤ v4 → Q I L) ∧ (¬ (v3 ≤ v4) → (((8 : Int32) ≤ v4 → Q I L) ∧ (¬ ((8 : Int32) ≤ v4) → (∃ m92 : Nat, f_X11_divide_L92 (f_X11_divide_L73 Z Q n) Z Q m92 v0 v3 v4 (0 : Int32) (1 : Int32) I L))))) := h
    obtain ⟨K73, eK73⟩ : ∃ K : Nat → Int32 → Int32 → jI → jL → Prop, K = f_X11_divide_L73  Z Q n := ⟨_, rfl⟩
    have hK73 := ih
    clear eK73 K73
    generalize f_X11_divide_L73  Z Q n = K73 at hK73 h
    refine j_iload E dX11_divide_73 2 rfl ?_
    refine j_iload_n E dX11_divide_75 1 rfl ?_
    refine j_icmp_ge E 156 dX11_divide_76 (by decide) (fun c16 => ?_) (fun c16 => ?_)
    · have h := h.1 c16
      exact j_return E ⟨rfl, rfl, h⟩ (Nat.zero_le _) (Nat.zero_le _) dX11_divide_156
    · have h := h.2 c16
      refine j_iload E dX11_divide_79 2 rfl ?_
      refine j_bipush E (v := 8) dX11_divide_81 (by decide) ?_
      refine j_icmp_ge E 156 dX11_divide_83 (by decide) (fun c17 => ?_) (fun c17 => ?_)
      · have h := h.1 c17
        exact j_return E ⟨rfl, rfl, h⟩ (Nat.zero_le _) (Nat.zero_le _) dX11_divide_156
      · have h := h.2 c17
        refine j_iconst E (v := 0) dX11_divide_86 (by decide) ?_
        refine j_istore E 5 [(5, .int (0 : Int32)), (0, .ref v0), (3, .int v3), (4, .int v4)] dX11_divide_87 (by decide) rfl ?_
        refine j_iconst E (v := 1) dX11_divide_89 (by decide) ?_
        refine j_istore E 6 [(6, .int (1 : Int32)), (5, .int (0 : Int32)), (0, .ref v0), (3, .int v3), (4, .int v4)] dX11_divide_90 (by decide) rfl ?_
        obtain ⟨n18, h⟩ := h
        refine j_sub [2, 3, 4, 1, 0] rfl ?_
        exact m_X11_divide_L92 E hZ K73 hK73 n18 v0 v3 v4 (0 : Int32) (1 : Int32) I L kv0 h
set_option maxRecDepth 100000 in
def f_X11_divide_L11  (Z : jZ) (Q : jI → jL → Prop) : Nat → Nat → Int32 → Int32 → Int32 → Int32 → jI → jL → Prop
  | 0 => fun _ _ _ _ _ _ _ => False
  | n + 1 => fun v0 v1 v2 v3 v4 I L => (((8 : Int32) ≤ v4 → (∃ m73 : Nat, f_X11_divide_L73  Z Q m73 v0 v3 (0 : Int32) I L)) ∧ (¬ ((8 : Int32) ≤ v4) → (∀ b21 : Nat, jr Z v0 7 = some b21 → (∀ b22 : Nat, jr Z v0 6 = some b22 → (vp_in v4 8 ∧ (¬ v2 = 0 ∧ (vp_in v4 8 ∧ (∀ I26 : jI, I26 = jpI I b21 v4.toNatClampNeg ((v1 * (I b22 v4.toNatClampNeg)) - (v1 * (I b22 v4.toNatClampNeg)) / v2 * v2) → (∀ b27 : Nat, jr Z v0 6 = some b27 → (∀ b28 : Nat, jr Z v0 6 = some b28 → (vp_in v4 8 ∧ (¬ v2 = 0 ∧ (vp_in v4 8 ∧ (∀ I32 : jI, I32 = jpI I26 b27 v4.toNatClampNeg ((v1 * (I26 b28 v4.toNatClampNeg)) / v2) → (∀ b33 : Nat, jr Z v0 6 = some b33 → (vp_in v4 8 ∧ (∀ x35 : Int32, x35 = (v3 - (I32 b33 v4.toNatClampNeg)) → (∀ x36 : Int32, x36 = v4 + 1 → (f_X11_divide_L11 Z Q n) v0 v1 v2 x35 x36 I32 L))))))))))))))))))
set_option maxHeartbeats 4000000 in
set_option maxRecDepth 100000 in
theorem m_X11_divide_L11 {G : jG} {Z : jZ} {Q : jI → jL → Prop} (E : jE G cX11_divide RX11 w_X11_divide 7 none { frames := 0, cells := 0, slots := 0, locals := 0 } (rtV Z Q)) (hZ : SH Z)  : ∀ (n : Nat) (v0 : Nat) (v1 : Int32) (v2 : Int32) (v3 : Int32) (v4 : Int32) (I : jI) (L : jL), jk Z v0 11 → f_X11_divide_L11  Z Q n v0 v1 v2 v3 v4 I L → jJ G 7 11 [(0, .ref v0), (1, .int v1), (2, .int v2), (3, .int v3), (4, .int v4)] [] Z I L 0 0 := by
  intro n
  induction n with
  | zero => intro v0 v1 v2 v3 v4 I L _ h; exact h.elim
  | succ n ih =>
    intro v0 v1 v2 v3 v4 I L kv0 h
    have h : (((8 : Int32) ≤ v4 → (∃ m73 : Nat, f_X11_divide_L73  Z Q m73 v0 v3 (0 : Int32) I L)) ∧ (¬ ((8 : Int32) ≤ v4) → (∀ b21 : Nat, jr Z v0 7 = some b21 → (∀ b22 : Nat, jr Z v0 6 = some b22 → (vp_in v4 8 ∧ (¬ v2 = 0 ∧ (vp_in v4 8 ∧ (∀ I26 : jI, I26 = jpI I b21 v4.toNatClampNeg ((v1 * (I b22 v4.toNatClampNeg)) - (v1 * (I b22 v4.toNatClampNeg)) / v2 * v2) → (∀ b27 : Nat, jr Z v0 6 = some b27 → (∀ b28 : Nat, jr Z v0 6 = some b28 → (vp_in v4 8 ∧ (¬ v2 = 0 ∧ (vp_in v4 8 ∧ (∀ I32 : jI, I32 = jpI I26 b27 v4.toNatClampNeg ((v1 * (I26 b28 v4.toNatClampNeg)) / v2) → (∀ b33 : Nat, jr Z v0 6 = some b33 → (vp_in v4 8 ∧ (∀ x35 : Int32, x35 = (v3 - (I32 b33 v4.toNatClampNeg)) → (∀ x36 : Int32, x36 = v4 + 1 → (f_X11_divide_L11 Z Q n) v0 v1 v2 x35 x36 I32 L)))))))))))))))))) := h
    obtain ⟨K11, eK11⟩ : ∃ K : Nat → Int32 → Int32 → Int32 → Int32 → jI → jL → Prop, K = f_X11_divide_L11  Z Q n := ⟨_, rfl⟩
    have hK11 := ih
    clear eK11 K11
    generalize f_X11_divide_L11  Z Q n = K11 at hK11 h
    refine j_iload E dX11_divide_11 4 rfl ?_
    refine j_bipush E (v := 8) dX11_divide_13 (by decide) ?_
    refine j_icmp_ge E 70 dX11_divide_15 (by decide) (fun c19 => ?_) (fun c19 => ?_)
    · have h := h.1 c19
      refine j_iconst E (v := 0) dX11_divide_70 (by decide) ?_
      refine j_istore E 4 [(4, .int (0 : Int32)), (0, .ref v0), (1, .int v1), (2, .int v2), (3, .int v3)] dX11_divide_71 (by decide) rfl ?_
      obtain ⟨n20, h⟩ := h
      refine j_sub [1, 4, 0] rfl ?_
      exact m_X11_divide_L73 E hZ  n20 v0 v3 (0 : Int32) I L kv0 h
    · have h := h.2 c19
      refine j_aload_n E dX11_divide_18 0 rfl ?_
      obtain ⟨b21, eb21, kb21, lb21⟩ := sh_f hZ kv0 (j := 7) (k := 14) (m := 8) rfl
      have h := h b21 eb21
      refine j_getr E 11 7 rfl rfl (by decide) (by decide) (iw iT_11) rfl rfl (tw W_490) kv0 eb21 dX11_divide_19 ?_
      refine j_iload E dX11_divide_22 4 rfl ?_
      refine j_iload_n E dX11_divide_24 1 rfl ?_
      refine j_aload_n E dX11_divide_25 0 rfl ?_
      obtain ⟨b22, eb22, kb22, lb22⟩ := sh_f hZ kv0 (j := 6) (k := 14) (m := 8) rfl
      have h := h b22 eb22
      refine j_getr E 11 6 rfl rfl (by decide) (by decide) (iw iT_11) rfl rfl (tw W_489) kv0 eb22 dX11_divide_26 ?_
      refine j_iload E dX11_divide_29 4 rfl ?_
      obtain ⟨o23, h⟩ := h
      refine j_iald E kb22 (by rw [lb22]; exact o23) dX11_divide_31 ?_
      refine j_imul E dX11_divide_32 ?_
      refine j_iload_n E dX11_divide_33 2 rfl ?_
      obtain ⟨o24, h⟩ := h
      refine j_irem E dX11_divide_34 o24 ?_
      obtain ⟨o25, h⟩ := h
      refine j_iast E kb21 (by rw [lb21]; exact o25) dX11_divide_35 ?_
      refine j_nmI (fun I26 eI26 => ?_)
      have h := h I26 eI26
      refine j_aload_n E dX11_divide_36 0 rfl ?_
      obtain ⟨b27, eb27, kb27, lb27⟩ := sh_f hZ kv0 (j := 6) (k := 14) (m := 8) rfl
      have h := h b27 eb27
      refine j_getr E 11 6 rfl rfl (by decide) (by decide) (iw iT_11) rfl rfl (tw W_489) kv0 eb27 dX11_divide_37 ?_
      refine j_iload E dX11_divide_40 4 rfl ?_
      refine j_iload_n E dX11_divide_42 1 rfl ?_
      refine j_aload_n E dX11_divide_43 0 rfl ?_
      obtain ⟨b28, eb28, kb28, lb28⟩ := sh_f hZ kv0 (j := 6) (k := 14) (m := 8) rfl
      have h := h b28 eb28
      refine j_getr E 11 6 rfl rfl (by decide) (by decide) (iw iT_11) rfl rfl (tw W_489) kv0 eb28 dX11_divide_44 ?_
      refine j_iload E dX11_divide_47 4 rfl ?_
      obtain ⟨o29, h⟩ := h
      refine j_iald E kb28 (by rw [lb28]; exact o29) dX11_divide_49 ?_
      refine j_imul E dX11_divide_50 ?_
      refine j_iload_n E dX11_divide_51 2 rfl ?_
      obtain ⟨o30, h⟩ := h
      refine j_idiv E dX11_divide_52 o30 ?_
      obtain ⟨o31, h⟩ := h
      refine j_iast E kb27 (by rw [lb27]; exact o31) dX11_divide_53 ?_
      refine j_nmI (fun I32 eI32 => ?_)
      have h := h I32 eI32
      refine j_iload_n E dX11_divide_54 3 rfl ?_
      refine j_aload_n E dX11_divide_55 0 rfl ?_
      obtain ⟨b33, eb33, kb33, lb33⟩ := sh_f hZ kv0 (j := 6) (k := 14) (m := 8) rfl
      have h := h b33 eb33
      refine j_getr E 11 6 rfl rfl (by decide) (by decide) (iw iT_11) rfl rfl (tw W_489) kv0 eb33 dX11_divide_56 ?_
      refine j_iload E dX11_divide_59 4 rfl ?_
      obtain ⟨o34, h⟩ := h
      refine j_iald E kb33 (by rw [lb33]; exact o34) dX11_divide_61 ?_
      refine j_isub E dX11_divide_62 ?_
      refine j_topi (fun x35 ex35 => ?_)
      have h := h x35 ex35
      refine j_istore_n E 3 [(3, .int x35), (0, .ref v0), (1, .int v1), (2, .int v2), (4, .int v4)] dX11_divide_63 rfl (by decide) rfl ?_
      obtain ⟨x36, ex36⟩ : ∃ y : Int32, y = v4 + 1 := ⟨_, rfl⟩
      have h := h x36 ex36
      refine j_iinc E x36 [(4, .int x36), (3, .int x35), (0, .ref v0), (1, .int v1), (2, .int v2)] dX11_divide_64 4 rfl (by rw [ex36]; rfl) (by decide) rfl ?_
      refine j_goto E 11 dX11_divide_67 (by decide) ?_
      refine j_sub [2, 3, 4, 1, 0] rfl ?_
      exact hK11 v0 v1 v2 x35 x36 I32 L kv0 h
set_option maxRecDepth 100000 in
def f_X11_divide (v0 : Nat) (v1 : Int32) (v2 : Int32) (Z : jZ) (I : jI) (L : jL) (Q : jI → jL → Prop) : Prop := (((1 : Int32) ≤ v2 → (∃ m11 : Nat, f_X11_divide_L11  Z Q m11 v0 v1 v2 v1 (0 : Int32) I L)) ∧ (¬ ((1 : Int32) ≤ v2) → Q I L))
set_option maxHeartbeats 4000000 in
set_option maxRecDepth 100000 in
theorem c_X11_divide (l : Launch) (D : va_G) (cy : jC) (v0 : Nat) (v1 : Int32) (v2 : Int32) (Z : jZ) (I : jI) (L : jL) (Q : jI → jL → Prop) (hZ : SH Z) (kv0 : jk Z v0 11) (h : f_X11_divide v0 v1 v2 Z I L Q) : jCt l yX11_divide w_X11_divide { frames := 0, cells := 0, slots := 0, locals := 0 } D cy [.ref v0, .int v1, .int v2] Z I L (rtV Z Q) := by
  refine jCt_of (cc := cX11_divide) (maxL := 7) (ret := none) (by decide +kernel) rfl (Nat.le_of_ble_eq_true rfl) ?_
  intro G eD eY eL E
  subst eD; subst eY; subst eL
  have E : jE G cX11_divide RX11 w_X11_divide 7 none { frames := 0, cells := 0, slots := 0, locals := 0 } (rtV Z Q) := E
  show jJ G 7 0 [(0, .ref v0), (1, .int v1), (2, .int v2)] [] Z I L 0 0
  refine j_iload_n E dX11_divide_0 2 rfl ?_
  refine j_iconst E (v := 1) dX11_divide_1 (by decide) ?_
  refine j_icmp_ge E 6 dX11_divide_2 (by decide) (fun c37 => ?_) (fun c37 => ?_)
  · have h := h.1 c37
    refine j_iload_n E dX11_divide_6 1 rfl ?_
    refine j_istore_n E 3 [(3, .int v1), (0, .ref v0), (1, .int v1), (2, .int v2)] dX11_divide_7 rfl (by decide) rfl ?_
    refine j_iconst E (v := 0) dX11_divide_8 (by decide) ?_
    refine j_istore E 4 [(4, .int (0 : Int32)), (3, .int v1), (0, .ref v0), (1, .int v1), (2, .int v2)] dX11_divide_9 (by decide) rfl ?_
    obtain ⟨n38, h⟩ := h
    refine j_sub [2, 3, 4, 1, 0] rfl ?_
    exact m_X11_divide_L11 E hZ  n38 v0 v1 v2 v1 (0 : Int32) I L kv0 h
  · have h := h.2 c37
    exact j_return E ⟨rfl, rfl, h⟩ (Nat.zero_le _) (Nat.zero_le _) dX11_divide_5
set_option maxRecDepth 100000 in
def f_X11_lead_L26  (Z : jZ) (Q : jI → jL → Prop) : Nat → Nat → Int32 → Int32 → jI → jL → Prop
  | 0 => fun _ _ _ _ _ => False
  | n + 1 => fun v0 v3 v4 I L => (((8 : Int32) ≤ v4 → Q I L) ∧ (¬ ((8 : Int32) ≤ v4) → (∀ b2 : Nat, jr Z v0 5 = some b2 → (vp_in v4 8 ∧ (∀ b4 : Nat, jr Z v0 6 = some b4 → (vp_in v4 8 ∧ (vp_in v4 8 ∧ (∀ I7 : jI, I7 = jpI I b2 v4.toNatClampNeg ((I b2 v4.toNatClampNeg) + (v3 * (I b4 v4.toNatClampNeg))) → (∀ x8 : Int32, x8 = v4 + 1 → (f_X11_lead_L26 Z Q n) v0 v3 x8 I7 L)))))))))
set_option maxHeartbeats 4000000 in
set_option maxRecDepth 100000 in
theorem m_X11_lead_L26 {G : jG} {Z : jZ} {Q : jI → jL → Prop} (E : jE G cX11_lead RX11 w_X11_lead 5 none { frames := 3, cells := 0, slots := 0, locals := 65 } (rtV Z Q)) (hZ : SH Z)  : ∀ (n : Nat) (v0 : Nat) (v3 : Int32) (v4 : Int32) (I : jI) (L : jL), jk Z v0 11 → f_X11_lead_L26  Z Q n v0 v3 v4 I L → jJ G 5 26 [(0, .ref v0), (3, .int v3), (4, .int v4)] [] Z I L 0 0 := by
  intro n
  induction n with
  | zero => intro v0 v3 v4 I L _ h; exact h.elim
  | succ n ih =>
    intro v0 v3 v4 I L kv0 h
    have h : (((8 : Int32) ≤ v4 → Q I L) ∧ (¬ ((8 : Int32) ≤ v4) → (∀ b2 : Nat, jr Z v0 5 = some b2 → (vp_in v4 8 ∧ (∀ b4 : Nat, jr Z v0 6 = some b4 → (vp_in v4 8 ∧ (vp_in v4 8 ∧ (∀ I7 : jI, I7 = jpI I b2 v4.toNatClampNeg ((I b2 v4.toNatClampNeg) + (v3 * (I b4 v4.toNatClampNeg))) → (∀ x8 : Int32, x8 = v4 + 1 → (f_X11_lead_L26 Z Q n) v0 v3 x8 I7 L))))))))) := h
    obtain ⟨K26, eK26⟩ : ∃ K : Nat → Int32 → Int32 → jI → jL → Prop, K = f_X11_lead_L26  Z Q n := ⟨_, rfl⟩
    have hK26 := ih
    clear eK26 K26
    generalize f_X11_lead_L26  Z Q n = K26 at hK26 h
    refine j_iload E dX11_lead_26 2 rfl ?_
    refine j_bipush E (v := 8) dX11_lead_28 (by decide) ?_
    refine j_icmp_ge E 58 dX11_lead_30 (by decide) (fun c1 => ?_) (fun c1 => ?_)
    · have h := h.1 c1
      exact j_return E ⟨rfl, rfl, h⟩ (Nat.zero_le _) (Nat.zero_le _) dX11_lead_58
    · have h := h.2 c1
      refine j_aload_n E dX11_lead_33 0 rfl ?_
      obtain ⟨b2, eb2, kb2, lb2⟩ := sh_f hZ kv0 (j := 5) (k := 14) (m := 8) rfl
      have h := h b2 eb2
      refine j_getr E 11 5 rfl rfl (by decide) (by decide) (iw iT_11) rfl rfl (tw W_418) kv0 eb2 dX11_lead_34 ?_
      refine j_iload E dX11_lead_37 2 rfl ?_
      refine j_dup2_11 E dX11_lead_39 rfl rfl ?_
      obtain ⟨o3, h⟩ := h
      refine j_iald E kb2 (by rw [lb2]; exact o3) dX11_lead_40 ?_
      refine j_iload_n E dX11_lead_41 1 rfl ?_
      refine j_aload_n E dX11_lead_42 0 rfl ?_
      obtain ⟨b4, eb4, kb4, lb4⟩ := sh_f hZ kv0 (j := 6) (k := 14) (m := 8) rfl
      have h := h b4 eb4
      refine j_getr E 11 6 rfl rfl (by decide) (by decide) (iw iT_11) rfl rfl (tw W_489) kv0 eb4 dX11_lead_43 ?_
      refine j_iload E dX11_lead_46 2 rfl ?_
      obtain ⟨o5, h⟩ := h
      refine j_iald E kb4 (by rw [lb4]; exact o5) dX11_lead_48 ?_
      refine j_imul E dX11_lead_49 ?_
      refine j_iadd E dX11_lead_50 ?_
      obtain ⟨o6, h⟩ := h
      refine j_iast E kb2 (by rw [lb2]; exact o6) dX11_lead_51 ?_
      refine j_nmI (fun I7 eI7 => ?_)
      have h := h I7 eI7
      obtain ⟨x8, ex8⟩ : ∃ y : Int32, y = v4 + 1 := ⟨_, rfl⟩
      have h := h x8 ex8
      refine j_iinc E x8 [(4, .int x8), (0, .ref v0), (3, .int v3)] dX11_lead_52 2 rfl (by rw [ex8]; rfl) (by decide) rfl ?_
      refine j_goto E 26 dX11_lead_55 (by decide) ?_
      refine j_sub [1, 2, 0] rfl ?_
      exact hK26 v0 v3 x8 I7 L kv0 h
set_option maxRecDepth 100000 in
def f_X11_lead (v0 : Nat) (v1 : Int32) (v2 : Int32) (v3 : Int32) (Z : jZ) (I : jI) (L : jL) (Q : jI → jL → Prop) : Prop := (∀ b9 : Nat, jr Z v0 2 = some b9 → (∀ b10 : Nat, jr Z b9 4 = some b10 → (∀ b11 : Nat, jr Z v0 6 = some b11 → (f_X4_shareInto b10 v2 b11 Z I L (fun I14 L15 => (f_X11_divide v0 v1 (720 : Int32) Z I14 L15 (fun I19 L20 => (∃ m26 : Nat, f_X11_lead_L26  Z Q m26 v0 v3 (0 : Int32) I19 L20))))))))
set_option maxHeartbeats 4000000 in
set_option maxRecDepth 100000 in
theorem c_X11_lead (l : Launch) (D : va_G) (cy : jC) (v0 : Nat) (v1 : Int32) (v2 : Int32) (v3 : Int32) (Z : jZ) (I : jI) (L : jL) (Q : jI → jL → Prop) (hZ : SH Z) (kv0 : jk Z v0 11) (h : f_X11_lead v0 v1 v2 v3 Z I L Q) : jCt l yX11_lead w_X11_lead { frames := 3, cells := 0, slots := 0, locals := 65 } D cy [.ref v0, .int v1, .int v2, .int v3] Z I L (rtV Z Q) := by
  refine jCt_of (cc := cX11_lead) (maxL := 5) (ret := none) (by decide +kernel) rfl (Nat.le_of_ble_eq_true rfl) ?_
  intro G eD eY eL E
  subst eD; subst eY; subst eL
  have E : jE G cX11_lead RX11 w_X11_lead 5 none { frames := 3, cells := 0, slots := 0, locals := 65 } (rtV Z Q) := E
  show jJ G 5 0 [(0, .ref v0), (1, .int v1), (2, .int v2), (3, .int v3)] [] Z I L 0 0
  refine j_aload_n E dX11_lead_0 0 rfl ?_
  obtain ⟨b9, eb9, kb9⟩ := sh_o hZ kv0 (j := 2) (k := 8) rfl
  have h := h b9 eb9
  refine j_getr E 11 2 rfl rfl (by decide) (by decide) (iw iT_11) rfl rfl (tw W_438) kv0 eb9 dX11_lead_1 ?_
  obtain ⟨b10, eb10, kb10⟩ := sh_o hZ kb9 (j := 4) (k := 4) rfl
  have h := h b10 eb10
  refine j_getrN E 8 4 rfl rfl (by decide) (by decide) (iw iT_8) rfl rfl (nw_8_4_X11_160) kb9 eb10 dX11_lead_4 ?_
  refine j_iload_n E dX11_lead_7 2 rfl ?_
  refine j_aload_n E dX11_lead_8 0 rfl ?_
  obtain ⟨b11, eb11, kb11, lb11⟩ := sh_f hZ kv0 (j := 6) (k := 14) (m := 8) rfl
  have h := h b11 eb11
  refine j_getr E 11 6 rfl rfl (by decide) (by decide) (iw iT_11) rfl rfl (tw W_489) kv0 eb11 dX11_lead_9 ?_
  refine j_callV E [.int v2, .ref b11] [] (c_X4_shareInto (gL G) (gD G) (gY G) b10 v2 b11 Z I L _ hZ kb10 kb11 h) (gwV W_492 W_493 W_494 W_154 W_491) rfl ⟨rfl, fy_X4_shareInto⟩ ⟨by decide, by decide⟩ (c := 4) rfl (by decide) kb10 rfl rfl (Nat.le_of_ble_eq_true rfl) ⟨Nat.zero_le _, Nat.zero_le _⟩ dX11_lead_12 (fun v12 Z13 I14 L15 q16 => ?_)
  obtain ⟨rfl, rfl, h⟩ := q16
  show jJ G 5 15 [(0, .ref v0), (1, .int v1), (2, .int v2), (3, .int v3)] [] Z I14 L15 0 0
  refine j_aload_n E dX11_lead_15 0 rfl ?_
  refine j_iload_n E dX11_lead_16 1 rfl ?_
  refine j_sipush E (v := 720) dX11_lead_17 (by decide) ?_
  refine j_callV E [.int v1, .int (720 : Int32)] [] (c_X11_divide (gL G) (gD G) (gY G) v0 v1 (720 : Int32) Z I14 L15 _ hZ kv0 h) (gwV W_496 W_497 W_498 W_28 W_495) rfl ⟨rfl, fy_X11_divide⟩ ⟨by decide, by decide⟩ (c := 11) rfl (by decide) kv0 rfl rfl (Nat.le_of_ble_eq_true rfl) ⟨Nat.zero_le _, Nat.zero_le _⟩ dX11_lead_20 (fun v17 Z18 I19 L20 q21 => ?_)
  obtain ⟨rfl, rfl, h⟩ := q21
  show jJ G 5 23 [(0, .ref v0), (1, .int v1), (2, .int v2), (3, .int v3)] [] Z I19 L20 0 0
  refine j_iconst E (v := 0) dX11_lead_23 (by decide) ?_
  refine j_istore E 4 [(4, .int (0 : Int32)), (0, .ref v0), (1, .int v1), (2, .int v2), (3, .int v3)] dX11_lead_24 (by decide) rfl ?_
  obtain ⟨n22, h⟩ := h
  refine j_sub [1, 4, 0] rfl ?_
  exact m_X11_lead_L26 E hZ  n22 v0 v3 (0 : Int32) I19 L20 kv0 h
set_option maxRecDepth 100000 in
def f_X11_payForMove_L17  (Z : jZ) (Q : jI → jL → Prop) : Nat → Nat → Nat → Int32 → Int32 → Int32 → jI → jL → Prop
  | 0 => fun _ _ _ _ _ _ _ => False
  | n + 1 => fun v0 v1 v2 v3 v4 I L => ((v2 ≤ v4 → (∀ b2 : Nat, jr Z v0 2 = some b2 → (f_X8_priceOf b2 (0 : Int32) v2 (I v1 5) v3 (I v1 3) Z I L (fun r8 I5 L6 => (f_X11_lead v0 r8 v2 (1 : Int32) Z I5 L6 (fun I11 L12 => Q I11 L12)))))) ∧ (¬ (v2 ≤ v4) → (∀ b14 : Nat, jr Z v0 2 = some b14 → (f_X8_priceOf b14 (1 : Int32) v4 (I v1 5) v3 (I v1 3) Z I L (fun r20 I17 L18 => (f_X11_lead v0 r20 v4 (1 : Int32) Z I17 L18 (fun I23 L24 => (∀ x26 : Int32, x26 = v4 + 1 → (f_X11_payForMove_L17 Z Q n) v0 v1 v2 v3 x26 I23 L24))))))))
set_option maxHeartbeats 4000000 in
set_option maxRecDepth 100000 in
theorem m_X11_payForMove_L17 {G : jG} {Z : jZ} {Q : jI → jL → Prop} (E : jE G cX11_payForMove RX11 w_X11_payForMove 5 none { frames := 4, cells := 0, slots := 0, locals := 89 } (rtV Z Q)) (hZ : SH Z)  : ∀ (n : Nat) (v0 : Nat) (v1 : Nat) (v2 : Int32) (v3 : Int32) (v4 : Int32) (I : jI) (L : jL), jk Z v0 11 → jk Z v1 5 → f_X11_payForMove_L17  Z Q n v0 v1 v2 v3 v4 I L → jJ G 5 17 [(0, .ref v0), (1, .ref v1), (2, .int v2), (3, .int v3), (4, .int v4)] [] Z I L 0 0 := by
  intro n
  induction n with
  | zero => intro v0 v1 v2 v3 v4 I L _ _ h; exact h.elim
  | succ n ih =>
    intro v0 v1 v2 v3 v4 I L kv0 kv1 h
    have h : ((v2 ≤ v4 → (∀ b2 : Nat, jr Z v0 2 = some b2 → (f_X8_priceOf b2 (0 : Int32) v2 (I v1 5) v3 (I v1 3) Z I L (fun r8 I5 L6 => (f_X11_lead v0 r8 v2 (1 : Int32) Z I5 L6 (fun I11 L12 => Q I11 L12)))))) ∧ (¬ (v2 ≤ v4) → (∀ b14 : Nat, jr Z v0 2 = some b14 → (f_X8_priceOf b14 (1 : Int32) v4 (I v1 5) v3 (I v1 3) Z I L (fun r20 I17 L18 => (f_X11_lead v0 r20 v4 (1 : Int32) Z I17 L18 (fun I23 L24 => (∀ x26 : Int32, x26 = v4 + 1 → (f_X11_payForMove_L17 Z Q n) v0 v1 v2 v3 x26 I23 L24)))))))) := h
    obtain ⟨K17, eK17⟩ : ∃ K : Nat → Nat → Int32 → Int32 → Int32 → jI → jL → Prop, K = f_X11_payForMove_L17  Z Q n := ⟨_, rfl⟩
    have hK17 := ih
    clear eK17 K17
    generalize f_X11_payForMove_L17  Z Q n = K17 at hK17 h
    refine j_iload E dX11_payForMove_17 4 rfl ?_
    refine j_iload_n E dX11_payForMove_19 2 rfl ?_
    refine j_icmp_ge E 55 dX11_payForMove_20 (by decide) (fun c1 => ?_) (fun c1 => ?_)
    · have h := h.1 c1
      refine j_aload_n E dX11_payForMove_55 0 rfl ?_
      refine j_aload_n E dX11_payForMove_56 0 rfl ?_
      obtain ⟨b2, eb2, kb2⟩ := sh_o hZ kv0 (j := 2) (k := 8) rfl
      have h := h b2 eb2
      refine j_getr E 11 2 rfl rfl (by decide) (by decide) (iw iT_11) rfl rfl (tw W_438) kv0 eb2 dX11_payForMove_57 ?_
      refine j_iconst E (v := 0) dX11_payForMove_60 (by decide) ?_
      refine j_iload_n E dX11_payForMove_61 2 rfl ?_
      refine j_aload_n E dX11_payForMove_62 1 rfl ?_
      refine j_getiN E 5 5 rfl rfl (by decide) (by decide) (iw iT_5) rfl rfl (nw_5_5_X11_201) kv1 dX11_payForMove_63 ?_
      refine j_iload_n E dX11_payForMove_66 3 rfl ?_
      refine j_aload_n E dX11_payForMove_67 1 rfl ?_
      refine j_getiN E 5 3 rfl rfl (by decide) (by decide) (iw iT_5) rfl rfl (nw_5_3_X11_213) kv1 dX11_payForMove_68 ?_
      refine j_callV E [.int (0 : Int32), .int v2, .int (I v1 5), .int v3, .int (I v1 3)] [.ref v0] (c_X8_priceOf (gL G) (gD G) (gY G) b2 (0 : Int32) v2 (I v1 5) v3 (I v1 3) Z I L _ hZ kb2 h) (gwV W_499 W_278 W_279 W_248 W_276) rfl ⟨rfl, fy_X8_priceOf⟩ ⟨by decide, by decide⟩ (c := 8) rfl (by decide) kb2 rfl rfl (Nat.le_of_ble_eq_true rfl) ⟨Nat.zero_le _, Nat.zero_le _⟩ dX11_payForMove_71 (fun v3 Z4 I5 L6 q7 => ?_)
      obtain ⟨rfl, r8, rfl, h⟩ := q7
      show jJ G 5 74 [(0, .ref v0), (1, .ref v1), (2, .int v2), (3, .int v3), (4, .int v4)] [.int r8, .ref v0] Z I5 L6 0 0
      refine j_iload_n E dX11_payForMove_74 2 rfl ?_
      refine j_iconst E (v := 1) dX11_payForMove_75 (by decide) ?_
      refine j_callV E [.int r8, .int v2, .int (1 : Int32)] [] (c_X11_lead (gL G) (gD G) (gY G) v0 r8 v2 (1 : Int32) Z I5 L6 _ hZ kv0 h) (gwV W_501 W_502 W_503 W_28 W_500) rfl ⟨rfl, fy_X11_lead⟩ ⟨by decide, by decide⟩ (c := 11) rfl (by decide) kv0 rfl rfl (Nat.le_of_ble_eq_true rfl) ⟨Nat.zero_le _, Nat.zero_le _⟩ dX11_payForMove_76 (fun v9 Z10 I11 L12 q13 => ?_)
      obtain ⟨rfl, rfl, h⟩ := q13
      show jJ G 5 79 [(0, .ref v0), (1, .ref v1), (2, .int v2), (3, .int v3), (4, .int v4)] [] Z I11 L12 0 0
      exact j_return E ⟨rfl, rfl, h⟩ (Nat.zero_le _) (Nat.zero_le _) dX11_payForMove_79
    · have h := h.2 c1
      refine j_aload_n E dX11_payForMove_23 0 rfl ?_
      refine j_aload_n E dX11_payForMove_24 0 rfl ?_
      obtain ⟨b14, eb14, kb14⟩ := sh_o hZ kv0 (j := 2) (k := 8) rfl
      have h := h b14 eb14
      refine j_getr E 11 2 rfl rfl (by decide) (by decide) (iw iT_11) rfl rfl (tw W_438) kv0 eb14 dX11_payForMove_25 ?_
      refine j_iconst E (v := 1) dX11_payForMove_28 (by decide) ?_
      refine j_iload E dX11_payForMove_29 4 rfl ?_
      refine j_aload_n E dX11_payForMove_31 1 rfl ?_
      refine j_getiN E 5 5 rfl rfl (by decide) (by decide) (iw iT_5) rfl rfl (nw_5_5_X11_201) kv1 dX11_payForMove_32 ?_
      refine j_iload_n E dX11_payForMove_35 3 rfl ?_
      refine j_aload_n E dX11_payForMove_36 1 rfl ?_
      refine j_getiN E 5 3 rfl rfl (by decide) (by decide) (iw iT_5) rfl rfl (nw_5_3_X11_213) kv1 dX11_payForMove_37 ?_
      refine j_callV E [.int (1 : Int32), .int v4, .int (I v1 5), .int v3, .int (I v1 3)] [.ref v0] (c_X8_priceOf (gL G) (gD G) (gY G) b14 (1 : Int32) v4 (I v1 5) v3 (I v1 3) Z I L _ hZ kb14 h) (gwV W_499 W_278 W_279 W_248 W_276) rfl ⟨rfl, fy_X8_priceOf⟩ ⟨by decide, by decide⟩ (c := 8) rfl (by decide) kb14 rfl rfl (Nat.le_of_ble_eq_true rfl) ⟨Nat.zero_le _, Nat.zero_le _⟩ dX11_payForMove_40 (fun v15 Z16 I17 L18 q19 => ?_)
      obtain ⟨rfl, r20, rfl, h⟩ := q19
      show jJ G 5 43 [(0, .ref v0), (1, .ref v1), (2, .int v2), (3, .int v3), (4, .int v4)] [.int r20, .ref v0] Z I17 L18 0 0
      refine j_iload E dX11_payForMove_43 4 rfl ?_
      refine j_iconst E (v := 1) dX11_payForMove_45 (by decide) ?_
      refine j_callV E [.int r20, .int v4, .int (1 : Int32)] [] (c_X11_lead (gL G) (gD G) (gY G) v0 r20 v4 (1 : Int32) Z I17 L18 _ hZ kv0 h) (gwV W_501 W_502 W_503 W_28 W_500) rfl ⟨rfl, fy_X11_lead⟩ ⟨by decide, by decide⟩ (c := 11) rfl (by decide) kv0 rfl rfl (Nat.le_of_ble_eq_true rfl) ⟨Nat.zero_le _, Nat.zero_le _⟩ dX11_payForMove_46 (fun v21 Z22 I23 L24 q25 => ?_)
      obtain ⟨rfl, rfl, h⟩ := q25
      show jJ G 5 49 [(0, .ref v0), (1, .ref v1), (2, .int v2), (3, .int v3), (4, .int v4)] [] Z I23 L24 0 0
      obtain ⟨x26, ex26⟩ : ∃ y : Int32, y = v4 + 1 := ⟨_, rfl⟩
      have h := h x26 ex26
      refine j_iinc E x26 [(4, .int x26), (0, .ref v0), (1, .ref v1), (2, .int v2), (3, .int v3)] dX11_payForMove_49 4 rfl (by rw [ex26]; rfl) (by decide) rfl ?_
      refine j_goto E 17 dX11_payForMove_52 (by decide) ?_
      refine j_sub [1, 2, 3, 4, 0] rfl ?_
      exact hK17 v0 v1 v2 v3 x26 I23 L24 kv0 kv1 h
set_option maxRecDepth 100000 in
def f_X11_payForMove (v0 : Nat) (v1 : Nat) (v2 : Int32) (Z : jZ) (I : jI) (L : jL) (Q : jI → jL → Prop) : Prop := (∀ x27 : Int32, x27 = ((v2 - (I v1 5)) - (1 : Int32)) → (∀ x28 : Int32, x28 = ((I v1 5) + (1 : Int32)) → (∃ m17 : Nat, f_X11_payForMove_L17  Z Q m17 v0 v1 v2 x27 x28 I L)))
set_option maxHeartbeats 4000000 in
set_option maxRecDepth 100000 in
theorem c_X11_payForMove (l : Launch) (D : va_G) (cy : jC) (v0 : Nat) (v1 : Nat) (v2 : Int32) (Z : jZ) (I : jI) (L : jL) (Q : jI → jL → Prop) (hZ : SH Z) (kv0 : jk Z v0 11) (kv1 : jk Z v1 5) (h : f_X11_payForMove v0 v1 v2 Z I L Q) : jCt l yX11_payForMove w_X11_payForMove { frames := 4, cells := 0, slots := 0, locals := 89 } D cy [.ref v0, .ref v1, .int v2] Z I L (rtV Z Q) := by
  refine jCt_of (cc := cX11_payForMove) (maxL := 5) (ret := none) (by decide +kernel) rfl (Nat.le_of_ble_eq_true rfl) ?_
  intro G eD eY eL E
  subst eD; subst eY; subst eL
  have E : jE G cX11_payForMove RX11 w_X11_payForMove 5 none { frames := 4, cells := 0, slots := 0, locals := 89 } (rtV Z Q) := E
  show jJ G 5 0 [(0, .ref v0), (1, .ref v1), (2, .int v2)] [] Z I L 0 0
  refine j_iload_n E dX11_payForMove_0 2 rfl ?_
  refine j_aload_n E dX11_payForMove_1 1 rfl ?_
  refine j_getiN E 5 5 rfl rfl (by decide) (by decide) (iw iT_5) rfl rfl (nw_5_5_X11_201) kv1 dX11_payForMove_2 ?_
  refine j_isub E dX11_payForMove_5 ?_
  refine j_iconst E (v := 1) dX11_payForMove_6 (by decide) ?_
  refine j_isub E dX11_payForMove_7 ?_
  refine j_topi (fun x27 ex27 => ?_)
  have h := h x27 ex27
  refine j_istore_n E 3 [(3, .int x27), (0, .ref v0), (1, .ref v1), (2, .int v2)] dX11_payForMove_8 rfl (by decide) rfl ?_
  refine j_aload_n E dX11_payForMove_9 2 rfl ?_
  refine j_getiN E 5 5 rfl rfl (by decide) (by decide) (iw iT_5) rfl rfl (nw_5_5_X11_201) kv1 dX11_payForMove_10 ?_
  refine j_iconst E (v := 1) dX11_payForMove_13 (by decide) ?_
  refine j_iadd E dX11_payForMove_14 ?_
  refine j_topi (fun x28 ex28 => ?_)
  have h := h x28 ex28
  refine j_istore E 4 [(4, .int x28), (3, .int x27), (0, .ref v0), (1, .ref v1), (2, .int v2)] dX11_payForMove_15 (by decide) rfl ?_
  obtain ⟨n29, h⟩ := h
  refine j_sub [2, 3, 4, 1, 0] rfl ?_
  exact m_X11_payForMove_L17 E hZ  n29 v0 v1 v2 x27 x28 I L kv0 kv1 h
set_option maxRecDepth 100000 in
def f_X11_tread (v0 : Nat) (v1 : Int32) (v2 : Int32) (Z : jZ) (I : jI) (L : jL) (Q : Int32 → jI → jL → Prop) : Prop := (f_X11_find v0 v1 Z I L (fun r6 I3 L4 => ((r6 = none → Q (-1 : Int32) I3 L4) ∧ (∀ b7 : Nat, r6 = some b7 → (∀ b9 : Nat, jr Z v0 2 = some b9 → (f_X8_has b9 v2 Z I3 L4 (fun r15 I12 L13 => ((¬ r15 = 0 → (f_X5_comesTo b7 v2 Z I12 L13 (fun r22 I19 L20 => ((¬ r22 = 0 → (∀ b24 : Nat, jr Z v0 2 = some b24 → (∀ b25 : Nat, jr Z b24 4 = some b25 → (f_X4_mainOf b25 v2 Z I19 L20 (fun r31 I28 L29 => (f_X5_vowsAgainst b7 r31 Z I28 L29 (fun r37 I34 L35 => ((r37 = 0 → (∀ b39 : Nat, jr Z v0 2 = some b39 → (f_X8_effortOfMove b39 (I34 b7 5) v2 (I34 b7 3) Z I34 L35 (fun r45 I42 L43 => ((r45 ≤ (I42 b7 6) → (∀ b47 : Nat, jr Z v0 2 = some b47 → (f_X8_costOfMove b47 (I42 b7 5) v2 (I42 b7 3) Z I42 L43 (fun r53 I50 L51 => ((r53 ≤ (I50 b7 7) → (f_X11_payForMove v0 b7 v2 Z I50 L51 (fun I57 L58 => (∀ I60 : jI, I60 = jpI I57 b7 6 ((I57 b7 6) - r45) → (∀ I61 : jI, I61 = jpI I60 b7 7 ((I60 b7 7) - r53) → (∀ I62 : jI, I62 = jpI I61 b7 5 v2 → Q r53 I62 L58)))))) ∧ (¬ (r53 ≤ (I50 b7 7)) → Q (-5 : Int32) I50 L51)))))) ∧ (¬ (r45 ≤ (I42 b7 6)) → Q (-4 : Int32) I42 L43)))))) ∧ (¬ (r37 = 0) → Q (-3 : Int32) I34 L35))))))))) ∧ (r22 = 0 → Q (-2 : Int32) I19 L20))))) ∧ (r15 = 0 → Q (-1 : Int32) I12 L13)))))))))
set_option maxHeartbeats 4000000 in
set_option maxRecDepth 100000 in
theorem c_X11_tread (l : Launch) (D : va_G) (cy : jC) (v0 : Nat) (v1 : Int32) (v2 : Int32) (Z : jZ) (I : jI) (L : jL) (Q : Int32 → jI → jL → Prop) (hZ : SH Z) (kv0 : jk Z v0 11) (h : f_X11_tread v0 v1 v2 Z I L Q) : jCt l yX11_tread w_X11_tread { frames := 5, cells := 0, slots := 0, locals := 113 } D cy [.ref v0, .int v1, .int v2] Z I L (rtI Z Q) := by
  refine jCt_of (cc := cX11_tread) (maxL := 6) (ret := (some .int)) (by decide +kernel) rfl (Nat.le_of_ble_eq_true rfl) ?_
  intro G eD eY eL E
  subst eD; subst eY; subst eL
  have E : jE G cX11_tread RX11 w_X11_tread 6 (some .int) { frames := 5, cells := 0, slots := 0, locals := 113 } (rtI Z Q) := E
  show jJ G 6 0 [(0, .ref v0), (1, .int v1), (2, .int v2)] [] Z I L 0 0
  refine j_aload_n E dX11_tread_0 0 rfl ?_
  refine j_iload_n E dX11_tread_1 1 rfl ?_
  refine j_callV E [.int v1] [] (c_X11_find (gL G) (gD G) (gY G) v0 v1 Z I L _ hZ kv0 h) (gwV W_421 W_422 W_423 W_28 W_420) rfl ⟨rfl, fy_X11_find⟩ ⟨by decide, by decide⟩ (c := 11) rfl (by decide) kv0 rfl rfl (Nat.le_of_ble_eq_true rfl) ⟨Nat.zero_le _, Nat.zero_le _⟩ dX11_tread_2 (fun v1 Z2 I3 L4 q5 => ?_)
  obtain ⟨rfl, r6, rfl, zr6, h⟩ := q5
  show jJ G 6 5 [(0, .ref v0), (1, .int v1), (2, .int v2)] (va_rf r6 :: []) Z I3 L4 0 0
  rcases c8 : r6 with _ | b7
  · have h := h.1 c8
    refine j_rfN rfl ?_
    refine j_astore_nN E 3 [(3, .null), (0, .ref v0), (1, .int v1), (2, .int v2)] dX11_tread_5 rfl (by decide) rfl ?_
    refine j_aload_nN E dX11_tread_6 0 rfl ?_
    refine j_ifnullN E 21 dX11_tread_7 (by decide) ?_
    refine j_iconst E (v := -1) dX11_tread_21 (by decide) ?_
    exact j_ireturn E ⟨rfl, _, rfl, h⟩ (Nat.zero_le _) (Nat.zero_le _) dX11_tread_22
  · have h := h.2 b7 c8
    have kb7 := zr6 b7 c8
    refine j_rfS rfl ?_
    refine j_astore_n E 3 [(3, .ref b7), (0, .ref v0), (1, .int v1), (2, .int v2)] dX11_tread_5 rfl (by decide) rfl ?_
    refine j_aload_n E dX11_tread_6 0 rfl ?_
    refine j_ifnull E dX11_tread_7 ?_
    refine j_aload_n E dX11_tread_10 1 rfl ?_
    obtain ⟨b9, eb9, kb9⟩ := sh_o hZ kv0 (j := 2) (k := 8) rfl
    have h := h b9 eb9
    refine j_getr E 11 2 rfl rfl (by decide) (by decide) (iw iT_11) rfl rfl (tw W_438) kv0 eb9 dX11_tread_11 ?_
    refine j_iload_n E dX11_tread_14 3 rfl ?_
    refine j_callV E [.int v2] [] (c_X8_has (gL G) (gD G) (gY G) b9 v2 Z I3 L4 _ hZ kb9 h) (gwV W_447 W_250 W_251 W_248 W_247) rfl ⟨rfl, fy_X8_has⟩ ⟨by decide, by decide⟩ (c := 8) rfl (by decide) kb9 rfl rfl (Nat.le_of_ble_eq_true rfl) ⟨Nat.zero_le _, Nat.zero_le _⟩ dX11_tread_15 (fun v10 Z11 I12 L13 q14 => ?_)
    obtain ⟨rfl, r15, rfl, zr15, h⟩ := q14
    show jJ G 6 18 [(3, .ref b7), (0, .ref v0), (1, .int v1), (2, .int v2)] [.int r15] Z I12 L13 0 0
    refine j_if_ne E 23 dX11_tread_18 (by decide) (fun c16 => ?_) (fun c16 => ?_)
    · have h := h.1 c16
      refine j_aload_n E dX11_tread_23 0 rfl ?_
      refine j_iload_n E dX11_tread_24 3 rfl ?_
      refine j_callV E [.int v2] [] (c_X5_comesTo (gL G) (gD G) (gY G) b7 v2 Z I12 L13 _ hZ kb7 h) (gwV W_480 W_481 W_482 W_425 W_479) rfl ⟨rfl, fy_X5_comesTo⟩ ⟨by decide, by decide⟩ (c := 5) rfl (by decide) kb7 rfl rfl (Nat.le_of_ble_eq_true rfl) ⟨Nat.zero_le _, Nat.zero_le _⟩ dX11_tread_25 (fun v17 Z18 I19 L20 q21 => ?_)
      obtain ⟨rfl, r22, rfl, zr22, h⟩ := q21
      show jJ G 6 28 [(3, .ref b7), (0, .ref v0), (1, .int v1), (2, .int v2)] [.int r22] Z I19 L20 0 0
      refine j_if_ne E 34 dX11_tread_28 (by decide) (fun c23 => ?_) (fun c23 => ?_)
      · have h := h.1 c23
        refine j_aload_n E dX11_tread_34 0 rfl ?_
        refine j_aload_n E dX11_tread_35 1 rfl ?_
        obtain ⟨b24, eb24, kb24⟩ := sh_o hZ kv0 (j := 2) (k := 8) rfl
        have h := h b24 eb24
        refine j_getr E 11 2 rfl rfl (by decide) (by decide) (iw iT_11) rfl rfl (tw W_438) kv0 eb24 dX11_tread_36 ?_
        obtain ⟨b25, eb25, kb25⟩ := sh_o hZ kb24 (j := 4) (k := 4) rfl
        have h := h b25 eb25
        refine j_getrN E 8 4 rfl rfl (by decide) (by decide) (iw iT_8) rfl rfl (nw_8_4_X11_160) kb24 eb25 dX11_tread_39 ?_
        refine j_iload_n E dX11_tread_42 3 rfl ?_
        refine j_callV E [.int v2] [.ref b7] (c_X4_mainOf (gL G) (gD G) (gY G) b25 v2 Z I19 L20 _ hZ kb25 h) (gwV W_448 W_259 W_260 W_154 W_257) rfl ⟨rfl, fy_X4_mainOf⟩ ⟨by decide, by decide⟩ (c := 4) rfl (by decide) kb25 rfl rfl (Nat.le_of_ble_eq_true rfl) ⟨Nat.zero_le _, Nat.zero_le _⟩ dX11_tread_43 (fun v26 Z27 I28 L29 q30 => ?_)
        obtain ⟨rfl, r31, rfl, h⟩ := q30
        show jJ G 6 46 [(3, .ref b7), (0, .ref v0), (1, .int v1), (2, .int v2)] [.int r31, .ref b7] Z I28 L29 0 0
        refine j_callV E [.int r31] [] (c_X5_vowsAgainst (gL G) (gD G) (gY G) b7 r31 Z I28 L29 _ hZ kb7 h) (gwV W_505 W_506 W_507 W_425 W_504) rfl ⟨rfl, fy_X5_vowsAgainst⟩ ⟨by decide, by decide⟩ (c := 5) rfl (by decide) kb7 rfl rfl (Nat.le_of_ble_eq_true rfl) ⟨Nat.zero_le _, Nat.zero_le _⟩ dX11_tread_46 (fun v32 Z33 I34 L35 q36 => ?_)
        obtain ⟨rfl, r37, rfl, zr37, h⟩ := q36
        show jJ G 6 49 [(3, .ref b7), (0, .ref v0), (1, .int v1), (2, .int v2)] [.int r37] Z I34 L35 0 0
        refine j_if_eq E 55 dX11_tread_49 (by decide) (fun c38 => ?_) (fun c38 => ?_)
        · have h := h.1 c38
          refine j_aload_n E dX11_tread_55 1 rfl ?_
          obtain ⟨b39, eb39, kb39⟩ := sh_o hZ kv0 (j := 2) (k := 8) rfl
          have h := h b39 eb39
          refine j_getr E 11 2 rfl rfl (by decide) (by decide) (iw iT_11) rfl rfl (tw W_438) kv0 eb39 dX11_tread_56 ?_
          refine j_aload_n E dX11_tread_59 0 rfl ?_
          refine j_getiN E 5 5 rfl rfl (by decide) (by decide) (iw iT_5) rfl rfl (nw_5_5_X11_201) kb7 dX11_tread_60 ?_
          refine j_iload_n E dX11_tread_63 3 rfl ?_
          refine j_aload_n E dX11_tread_64 0 rfl ?_
          refine j_getiN E 5 3 rfl rfl (by decide) (by decide) (iw iT_5) rfl rfl (nw_5_3_X11_213) kb7 dX11_tread_65 ?_
          refine j_callV E [.int (I34 b7 5), .int v2, .int (I34 b7 3)] [] (c_X8_effortOfMove (gL G) (gD G) (gY G) b39 (I34 b7 5) v2 (I34 b7 3) Z I34 L35 _ hZ kb39 h) (gwV W_483 W_288 W_289 W_248 W_286) rfl ⟨rfl, fy_X8_effortOfMove⟩ ⟨by decide, by decide⟩ (c := 8) rfl (by decide) kb39 rfl rfl (Nat.le_of_ble_eq_true rfl) ⟨Nat.zero_le _, Nat.zero_le _⟩ dX11_tread_68 (fun v40 Z41 I42 L43 q44 => ?_)
          obtain ⟨rfl, r45, rfl, h⟩ := q44
          show jJ G 6 71 [(3, .ref b7), (0, .ref v0), (1, .int v1), (2, .int v2)] [.int r45] Z I42 L43 0 0
          refine j_istore E 4 [(4, .int r45), (3, .ref b7), (0, .ref v0), (1, .int v1), (2, .int v2)] dX11_tread_71 (by decide) rfl ?_
          refine j_iload E dX11_tread_73 0 rfl ?_
          refine j_aload_n E dX11_tread_75 1 rfl ?_
          refine j_getiN E 5 6 rfl rfl (by decide) (by decide) (iw iT_5) rfl rfl (nw_5_6_X11_204) kb7 dX11_tread_76 ?_
          refine j_icmp_le E 85 dX11_tread_79 (by decide) (fun c46 => ?_) (fun c46 => ?_)
          · have h := h.1 c46
            refine j_aload_n E dX11_tread_85 2 rfl ?_
            obtain ⟨b47, eb47, kb47⟩ := sh_o hZ kv0 (j := 2) (k := 8) rfl
            have h := h b47 eb47
            refine j_getr E 11 2 rfl rfl (by decide) (by decide) (iw iT_11) rfl rfl (tw W_438) kv0 eb47 dX11_tread_86 ?_
            refine j_aload_n E dX11_tread_89 1 rfl ?_
            refine j_getiN E 5 5 rfl rfl (by decide) (by decide) (iw iT_5) rfl rfl (nw_5_5_X11_201) kb7 dX11_tread_90 ?_
            refine j_iload_n E dX11_tread_93 4 rfl ?_
            refine j_aload_n E dX11_tread_94 1 rfl ?_
            refine j_getiN E 5 3 rfl rfl (by decide) (by decide) (iw iT_5) rfl rfl (nw_5_3_X11_213) kb7 dX11_tread_95 ?_
            refine j_callV E [.int (I42 b7 5), .int v2, .int (I42 b7 3)] [] (c_X8_costOfMove (gL G) (gD G) (gY G) b47 (I42 b7 5) v2 (I42 b7 3) Z I42 L43 _ hZ kb47 h) (gwV W_488 W_284 W_285 W_248 W_282) rfl ⟨rfl, fy_X8_costOfMove⟩ ⟨by decide, by decide⟩ (c := 8) rfl (by decide) kb47 rfl rfl (Nat.le_of_ble_eq_true rfl) ⟨Nat.zero_le _, Nat.zero_le _⟩ dX11_tread_98 (fun v48 Z49 I50 L51 q52 => ?_)
            obtain ⟨rfl, r53, rfl, h⟩ := q52
            show jJ G 6 101 [(4, .int r45), (3, .ref b7), (0, .ref v0), (1, .int v1), (2, .int v2)] [.int r53] Z I50 L51 0 0
            refine j_istore E 5 [(5, .int r53), (4, .int r45), (3, .ref b7), (0, .ref v0), (1, .int v1), (2, .int v2)] dX11_tread_101 (by decide) rfl ?_
            refine j_iload E dX11_tread_103 0 rfl ?_
            refine j_aload_n E dX11_tread_105 2 rfl ?_
            refine j_getiN E 5 7 rfl rfl (by decide) (by decide) (iw iT_5) rfl rfl (nw_5_7_X11_207) kb7 dX11_tread_106 ?_
            refine j_icmp_le E 115 dX11_tread_109 (by decide) (fun c54 => ?_) (fun c54 => ?_)
            · have h := h.1 c54
              refine j_aload_n E dX11_tread_115 3 rfl ?_
              refine j_aload_n E dX11_tread_116 2 rfl ?_
              refine j_iload_n E dX11_tread_117 5 rfl ?_
              refine j_callV E [.ref b7, .int v2] [] (c_X11_payForMove (gL G) (gD G) (gY G) v0 b7 v2 Z I50 L51 _ hZ kv0 kb7 h) (gwV W_509 W_510 W_511 W_28 W_508) rfl ⟨rfl, fy_X11_payForMove⟩ ⟨by decide, by decide⟩ (c := 11) rfl (by decide) kv0 rfl rfl (Nat.le_of_ble_eq_true rfl) ⟨Nat.zero_le _, Nat.zero_le _⟩ dX11_tread_118 (fun v55 Z56 I57 L58 q59 => ?_)
              obtain ⟨rfl, rfl, h⟩ := q59
              show jJ G 6 121 [(5, .int r53), (4, .int r45), (3, .ref b7), (0, .ref v0), (1, .int v1), (2, .int v2)] [] Z I57 L58 0 0
              refine j_aload_n E dX11_tread_121 2 rfl ?_
              refine j_dup E dX11_tread_122 rfl ?_
              refine j_getiN E 5 6 rfl rfl (by decide) (by decide) (iw iT_5) rfl rfl (nw_5_6_X11_204) kb7 dX11_tread_123 ?_
              refine j_iload E dX11_tread_126 1 rfl ?_
              refine j_isub E dX11_tread_128 ?_
              refine j_putiN E 5 6 rfl rfl (by decide) (by decide) (iw iT_5) tyX5_ok nmX5 rfl rfl (nw_5_6_X11_204) rfl rfl rfl kb7 dX11_tread_129 ?_
              refine j_nmI (fun I60 eI60 => ?_)
              have h := h I60 eI60
              refine j_aload_n E dX11_tread_132 2 rfl ?_
              refine j_dup E dX11_tread_133 rfl ?_
              refine j_getiN E 5 7 rfl rfl (by decide) (by decide) (iw iT_5) rfl rfl (nw_5_7_X11_207) kb7 dX11_tread_134 ?_
              refine j_iload E dX11_tread_137 0 rfl ?_
              refine j_isub E dX11_tread_139 ?_
              refine j_putiN E 5 7 rfl rfl (by decide) (by decide) (iw iT_5) tyX5_ok nmX5 rfl rfl (nw_5_7_X11_207) rfl rfl rfl kb7 dX11_tread_140 ?_
              refine j_nmI (fun I61 eI61 => ?_)
              have h := h I61 eI61
              refine j_aload_n E dX11_tread_143 2 rfl ?_
              refine j_iload_n E dX11_tread_144 5 rfl ?_
              refine j_putiN E 5 5 rfl rfl (by decide) (by decide) (iw iT_5) tyX5_ok nmX5 rfl rfl (nw_5_5_X11_201) rfl rfl rfl kb7 dX11_tread_145 ?_
              refine j_nmI (fun I62 eI62 => ?_)
              have h := h I62 eI62
              refine j_iload E dX11_tread_148 0 rfl ?_
              exact j_ireturn E ⟨rfl, _, rfl, h⟩ (Nat.zero_le _) (Nat.zero_le _) dX11_tread_150
            · have h := h.2 c54
              refine j_bipush E (v := -5) dX11_tread_112 (by decide) ?_
              exact j_ireturn E ⟨rfl, _, rfl, h⟩ (Nat.zero_le _) (Nat.zero_le _) dX11_tread_114
          · have h := h.2 c46
            refine j_bipush E (v := -4) dX11_tread_82 (by decide) ?_
            exact j_ireturn E ⟨rfl, _, rfl, h⟩ (Nat.zero_le _) (Nat.zero_le _) dX11_tread_84
        · have h := h.2 c38
          refine j_bipush E (v := -3) dX11_tread_52 (by decide) ?_
          exact j_ireturn E ⟨rfl, _, rfl, h⟩ (Nat.zero_le _) (Nat.zero_le _) dX11_tread_54
      · have h := h.2 c23
        refine j_bipush E (v := -2) dX11_tread_31 (by decide) ?_
        exact j_ireturn E ⟨rfl, _, rfl, h⟩ (Nat.zero_le _) (Nat.zero_le _) dX11_tread_33
    · have h := h.2 c16
      refine j_iconst E (v := -1) dX11_tread_21 (by decide) ?_
      exact j_ireturn E ⟨rfl, _, rfl, h⟩ (Nat.zero_le _) (Nat.zero_le _) dX11_tread_22
set_option maxRecDepth 100000 in
def f_X11_rests_b83  (Z : jZ) (Q : Int32 → jI → jL → Prop) (v2 : Int32) (v3 : Nat) (v4 : Int32) (I : jI) (L : jL) : Prop := (∀ I1 : jI, I1 = jpI I v3 7 ((I v3 7) - v4) → (∀ I2 : jI, I2 = jpI I1 v3 6 (if ((I1 v3 6) + v2) < (I1 v3 0) then ((I1 v3 6) + v2) else (I1 v3 0)) → Q v4 I2 L))
set_option maxHeartbeats 4000000 in
set_option maxRecDepth 100000 in
theorem m_X11_rests_b83 {G : jG} {Z : jZ} {Q : Int32 → jI → jL → Prop} (E : jE G cX11_rests RX11 w_X11_rests 5 (some .int) { frames := 4, cells := 0, slots := 0, locals := 89 } (rtI Z Q)) (hZ : SH Z)  (v2 : Int32) (v3 : Nat) (v4 : Int32) (I : jI) (L : jL) (kv3 : jk Z v3 5) (h : f_X11_rests_b83  Z Q v2 v3 v4 I L) : jJ G 5 83 [(2, .int v2), (3, .ref v3), (4, .int v4)] [] Z I L 0 0 := by
  refine j_aload_n E dX11_rests_83 1 rfl ?_
  refine j_dup E dX11_rests_84 rfl ?_
  refine j_getiN E 5 7 rfl rfl (by decide) (by decide) (iw iT_5) rfl rfl (nw_5_7_X11_207) kv3 dX11_rests_85 ?_
  refine j_iload E dX11_rests_88 2 rfl ?_
  refine j_isub E dX11_rests_90 ?_
  refine j_putiN E 5 7 rfl rfl (by decide) (by decide) (iw iT_5) tyX5_ok nmX5 rfl rfl (nw_5_7_X11_207) rfl rfl rfl kv3 dX11_rests_91 ?_
  refine j_nmI (fun I1 eI1 => ?_)
  have h := h I1 eI1
  refine j_aload_n E dX11_rests_94 1 rfl ?_
  refine j_aload_n E dX11_rests_95 1 rfl ?_
  refine j_getiN E 5 0 rfl rfl (by decide) (by decide) (iw iT_5) rfl rfl (nw_5_0_X11_216) kv3 dX11_rests_96 ?_
  refine j_aload_n E dX11_rests_99 1 rfl ?_
  refine j_getiN E 5 6 rfl rfl (by decide) (by decide) (iw iT_5) rfl rfl (nw_5_6_X11_204) kv3 dX11_rests_100 ?_
  refine j_iload_n E dX11_rests_103 0 rfl ?_
  refine j_iadd E dX11_rests_104 ?_
  refine j_min E (tw W_451) (tw W_118) (tw W_119) (tw W_120) (by decide) (Nat.le_of_ble_eq_true rfl) (Nat.zero_le _) (Nat.zero_le _) dX11_rests_105 ?_
  refine j_putiN E 5 6 rfl rfl (by decide) (by decide) (iw iT_5) tyX5_ok nmX5 rfl rfl (nw_5_6_X11_204) rfl rfl rfl kv3 dX11_rests_108 ?_
  refine j_nmI (fun I2 eI2 => ?_)
  have h := h I2 eI2
  refine j_iload E dX11_rests_111 2 rfl ?_
  exact j_ireturn E ⟨rfl, _, rfl, h⟩ (Nat.zero_le _) (Nat.zero_le _) dX11_rests_113
set_option maxRecDepth 100000 in
def f_X11_rests (v0 : Nat) (v1 : Int32) (v2 : Int32) (Z : jZ) (I : jI) (L : jL) (Q : Int32 → jI → jL → Prop) : Prop := (f_X11_find v0 v1 Z I L (fun r8 I5 L6 => ((r8 = none → Q (-1 : Int32) I5 L6) ∧ (∀ b9 : Nat, r8 = some b9 → ((v2 < (1 : Int32) → Q (-1 : Int32) I5 L6) ∧ (¬ (v2 < (1 : Int32)) → ((v2 ≤ (30 : Int32) → (∀ b13 : Nat, jr Z v0 2 = some b13 → (f_X8_priceOf b13 (0 : Int32) (I5 b9 5) (I5 b9 5) (0 : Int32) (I5 b9 3) Z I5 L6 (fun r19 I16 L17 => ((r19 ≤ (I16 b9 7) → (∀ b21 : Nat, jr Z v0 2 = some b21 → (f_X8_has b21 (I16 b9 5) Z I16 L17 (fun r27 I24 L25 => ((r27 = 0 → f_X11_rests_b83  Z Q v2 b9 r19 I24 L25) ∧ (¬ (r27 = 0) → (f_X11_lead v0 r19 (I24 b9 5) (1 : Int32) Z I24 L25 (fun I31 L32 => f_X11_rests_b83  Z Q v2 b9 r19 I31 L32)))))))) ∧ (¬ (r19 ≤ (I16 b9 7)) → Q (-5 : Int32) I16 L17)))))) ∧ (¬ (v2 ≤ (30 : Int32)) → Q (-1 : Int32) I5 L6))))))))
set_option maxHeartbeats 4000000 in
set_option maxRecDepth 100000 in
theorem c_X11_rests (l : Launch) (D : va_G) (cy : jC) (v0 : Nat) (v1 : Int32) (v2 : Int32) (Z : jZ) (I : jI) (L : jL) (Q : Int32 → jI → jL → Prop) (hZ : SH Z) (kv0 : jk Z v0 11) (h : f_X11_rests v0 v1 v2 Z I L Q) : jCt l yX11_rests w_X11_rests { frames := 4, cells := 0, slots := 0, locals := 89 } D cy [.ref v0, .int v1, .int v2] Z I L (rtI Z Q) := by
  refine jCt_of (cc := cX11_rests) (maxL := 5) (ret := (some .int)) (by decide +kernel) rfl (Nat.le_of_ble_eq_true rfl) ?_
  intro G eD eY eL E
  subst eD; subst eY; subst eL
  have E : jE G cX11_rests RX11 w_X11_rests 5 (some .int) { frames := 4, cells := 0, slots := 0, locals := 89 } (rtI Z Q) := E
  show jJ G 5 0 [(0, .ref v0), (1, .int v1), (2, .int v2)] [] Z I L 0 0
  refine j_aload_n E dX11_rests_0 0 rfl ?_
  refine j_iload_n E dX11_rests_1 1 rfl ?_
  refine j_callV E [.int v1] [] (c_X11_find (gL G) (gD G) (gY G) v0 v1 Z I L _ hZ kv0 h) (gwV W_421 W_422 W_423 W_28 W_420) rfl ⟨rfl, fy_X11_find⟩ ⟨by decide, by decide⟩ (c := 11) rfl (by decide) kv0 rfl rfl (Nat.le_of_ble_eq_true rfl) ⟨Nat.zero_le _, Nat.zero_le _⟩ dX11_rests_2 (fun v3 Z4 I5 L6 q7 => ?_)
  obtain ⟨rfl, r8, rfl, zr8, h⟩ := q7
  show jJ G 5 5 [(0, .ref v0), (1, .int v1), (2, .int v2)] (va_rf r8 :: []) Z I5 L6 0 0
  rcases c10 : r8 with _ | b9
  · have h := h.1 c10
    refine j_rfN rfl ?_
    refine j_astore_nN E 3 [(3, .null), (0, .ref v0), (1, .int v1), (2, .int v2)] dX11_rests_5 rfl (by decide) rfl ?_
    refine j_aload_nN E dX11_rests_6 0 rfl ?_
    refine j_ifnullN E 21 dX11_rests_7 (by decide) ?_
    refine j_iconst E (v := -1) dX11_rests_21 (by decide) ?_
    exact j_ireturn E ⟨rfl, _, rfl, h⟩ (Nat.zero_le _) (Nat.zero_le _) dX11_rests_22
  · have h := h.2 b9 c10
    have kb9 := zr8 b9 c10
    refine j_rfS rfl ?_
    refine j_astore_n E 3 [(3, .ref b9), (0, .ref v0), (1, .int v1), (2, .int v2)] dX11_rests_5 rfl (by decide) rfl ?_
    refine j_aload_n E dX11_rests_6 0 rfl ?_
    refine j_ifnull E dX11_rests_7 ?_
    refine j_iload_n E dX11_rests_10 3 rfl ?_
    refine j_iconst E (v := 1) dX11_rests_11 (by decide) ?_
    refine j_icmp_lt E 21 dX11_rests_12 (by decide) (fun c11 => ?_) (fun c11 => ?_)
    · have h := h.1 c11
      refine j_iconst E (v := -1) dX11_rests_21 (by decide) ?_
      exact j_ireturn E ⟨rfl, _, rfl, h⟩ (Nat.zero_le _) (Nat.zero_le _) dX11_rests_22
    · have h := h.2 c11
      refine j_iload_n E dX11_rests_15 3 rfl ?_
      refine j_bipush E (v := 30) dX11_rests_16 (by decide) ?_
      refine j_icmp_le E 23 dX11_rests_18 (by decide) (fun c12 => ?_) (fun c12 => ?_)
      · have h := h.1 c12
        refine j_aload_n E dX11_rests_23 1 rfl ?_
        obtain ⟨b13, eb13, kb13⟩ := sh_o hZ kv0 (j := 2) (k := 8) rfl
        have h := h b13 eb13
        refine j_getr E 11 2 rfl rfl (by decide) (by decide) (iw iT_11) rfl rfl (tw W_438) kv0 eb13 dX11_rests_24 ?_
        refine j_iconst E (v := 0) dX11_rests_27 (by decide) ?_
        refine j_aload_n E dX11_rests_28 0 rfl ?_
        refine j_getiN E 5 5 rfl rfl (by decide) (by decide) (iw iT_5) rfl rfl (nw_5_5_X11_201) kb9 dX11_rests_29 ?_
        refine j_aload_n E dX11_rests_32 0 rfl ?_
        refine j_getiN E 5 5 rfl rfl (by decide) (by decide) (iw iT_5) rfl rfl (nw_5_5_X11_201) kb9 dX11_rests_33 ?_
        refine j_iconst E (v := 0) dX11_rests_36 (by decide) ?_
        refine j_aload_n E dX11_rests_37 0 rfl ?_
        refine j_getiN E 5 3 rfl rfl (by decide) (by decide) (iw iT_5) rfl rfl (nw_5_3_X11_213) kb9 dX11_rests_38 ?_
        refine j_callV E [.int (0 : Int32), .int (I5 b9 5), .int (I5 b9 5), .int (0 : Int32), .int (I5 b9 3)] [] (c_X8_priceOf (gL G) (gD G) (gY G) b13 (0 : Int32) (I5 b9 5) (I5 b9 5) (0 : Int32) (I5 b9 3) Z I5 L6 _ hZ kb13 h) (gwV W_499 W_278 W_279 W_248 W_276) rfl ⟨rfl, fy_X8_priceOf⟩ ⟨by decide, by decide⟩ (c := 8) rfl (by decide) kb13 rfl rfl (Nat.le_of_ble_eq_true rfl) ⟨Nat.zero_le _, Nat.zero_le _⟩ dX11_rests_41 (fun v14 Z15 I16 L17 q18 => ?_)
        obtain ⟨rfl, r19, rfl, h⟩ := q18
        show jJ G 5 44 [(3, .ref b9), (0, .ref v0), (1, .int v1), (2, .int v2)] [.int r19] Z I16 L17 0 0
        refine j_istore E 4 [(4, .int r19), (3, .ref b9), (0, .ref v0), (1, .int v1), (2, .int v2)] dX11_rests_44 (by decide) rfl ?_
        refine j_iload E dX11_rests_46 0 rfl ?_
        refine j_aload_n E dX11_rests_48 1 rfl ?_
        refine j_getiN E 5 7 rfl rfl (by decide) (by decide) (iw iT_5) rfl rfl (nw_5_7_X11_207) kb9 dX11_rests_49 ?_
        refine j_icmp_le E 58 dX11_rests_52 (by decide) (fun c20 => ?_) (fun c20 => ?_)
        · have h := h.1 c20
          refine j_aload_n E dX11_rests_58 2 rfl ?_
          obtain ⟨b21, eb21, kb21⟩ := sh_o hZ kv0 (j := 2) (k := 8) rfl
          have h := h b21 eb21
          refine j_getr E 11 2 rfl rfl (by decide) (by decide) (iw iT_11) rfl rfl (tw W_438) kv0 eb21 dX11_rests_59 ?_
          refine j_aload_n E dX11_rests_62 1 rfl ?_
          refine j_getiN E 5 5 rfl rfl (by decide) (by decide) (iw iT_5) rfl rfl (nw_5_5_X11_201) kb9 dX11_rests_63 ?_
          refine j_callV E [.int (I16 b9 5)] [] (c_X8_has (gL G) (gD G) (gY G) b21 (I16 b9 5) Z I16 L17 _ hZ kb21 h) (gwV W_447 W_250 W_251 W_248 W_247) rfl ⟨rfl, fy_X8_has⟩ ⟨by decide, by decide⟩ (c := 8) rfl (by decide) kb21 rfl rfl (Nat.le_of_ble_eq_true rfl) ⟨Nat.zero_le _, Nat.zero_le _⟩ dX11_rests_66 (fun v22 Z23 I24 L25 q26 => ?_)
          obtain ⟨rfl, r27, rfl, zr27, h⟩ := q26
          show jJ G 5 69 [(4, .int r19), (3, .ref b9), (0, .ref v0), (1, .int v1), (2, .int v2)] [.int r27] Z I24 L25 0 0
          refine j_if_eq E 83 dX11_rests_69 (by decide) (fun c28 => ?_) (fun c28 => ?_)
          · have h := h.1 c28
            refine j_sub [4, 1, 0] rfl ?_
            exact m_X11_rests_b83 E hZ  v2 b9 r19 I24 L25 kb9 h
          · have h := h.2 c28
            refine j_aload_n E dX11_rests_72 2 rfl ?_
            refine j_iload E dX11_rests_73 0 rfl ?_
            refine j_aload_n E dX11_rests_75 1 rfl ?_
            refine j_getiN E 5 5 rfl rfl (by decide) (by decide) (iw iT_5) rfl rfl (nw_5_5_X11_201) kb9 dX11_rests_76 ?_
            refine j_iconst E (v := 1) dX11_rests_79 (by decide) ?_
            refine j_callV E [.int r19, .int (I24 b9 5), .int (1 : Int32)] [] (c_X11_lead (gL G) (gD G) (gY G) v0 r19 (I24 b9 5) (1 : Int32) Z I24 L25 _ hZ kv0 h) (gwV W_501 W_502 W_503 W_28 W_500) rfl ⟨rfl, fy_X11_lead⟩ ⟨by decide, by decide⟩ (c := 11) rfl (by decide) kv0 rfl rfl (Nat.le_of_ble_eq_true rfl) ⟨Nat.zero_le _, Nat.zero_le _⟩ dX11_rests_80 (fun v29 Z30 I31 L32 q33 => ?_)
            obtain ⟨rfl, rfl, h⟩ := q33
            show jJ G 5 83 [(4, .int r19), (3, .ref b9), (0, .ref v0), (1, .int v1), (2, .int v2)] [] Z I31 L32 0 0
            refine j_sub [4, 1, 0] rfl ?_
            exact m_X11_rests_b83 E hZ  v2 b9 r19 I31 L32 kb9 h
        · have h := h.2 c20
          refine j_bipush E (v := -5) dX11_rests_55 (by decide) ?_
          exact j_ireturn E ⟨rfl, _, rfl, h⟩ (Nat.zero_le _) (Nat.zero_le _) dX11_rests_57
      · have h := h.2 c12
        refine j_iconst E (v := -1) dX11_rests_21 (by decide) ?_
        exact j_ireturn E ⟨rfl, _, rfl, h⟩ (Nat.zero_le _) (Nat.zero_le _) dX11_rests_22
set_option maxRecDepth 100000 in
def f_X11_returns (v0 : Nat) (v1 : Int32) (Z : jZ) (I : jI) (L : jL) (Q : Int32 → jI → jL → Prop) : Prop := (f_X11_find v0 v1 Z I L (fun r6 I3 L4 => ((r6 = none → Q (-1 : Int32) I3 L4) ∧ (∀ b7 : Nat, r6 = some b7 → (∀ x9 : Int32, x9 = (I3 b7 5) → (∀ I10 : jI, I10 = jpI I3 b7 5 (-1 : Int32) → (∀ I11 : jI, I11 = jpI I10 b7 6 (I10 b7 0) → Q x9 I11 L4)))))))
set_option maxHeartbeats 4000000 in
set_option maxRecDepth 100000 in
theorem c_X11_returns (l : Launch) (D : va_G) (cy : jC) (v0 : Nat) (v1 : Int32) (Z : jZ) (I : jI) (L : jL) (Q : Int32 → jI → jL → Prop) (hZ : SH Z) (kv0 : jk Z v0 11) (h : f_X11_returns v0 v1 Z I L Q) : jCt l yX11_returns w_X11_returns { frames := 1, cells := 0, slots := 0, locals := 21 } D cy [.ref v0, .int v1] Z I L (rtI Z Q) := by
  refine jCt_of (cc := cX11_returns) (maxL := 4) (ret := (some .int)) (by decide +kernel) rfl (Nat.le_of_ble_eq_true rfl) ?_
  intro G eD eY eL E
  subst eD; subst eY; subst eL
  have E : jE G cX11_returns RX11 w_X11_returns 4 (some .int) { frames := 1, cells := 0, slots := 0, locals := 21 } (rtI Z Q) := E
  show jJ G 4 0 [(0, .ref v0), (1, .int v1)] [] Z I L 0 0
  refine j_aload_n E dX11_returns_0 0 rfl ?_
  refine j_iload_n E dX11_returns_1 1 rfl ?_
  refine j_callV E [.int v1] [] (c_X11_find (gL G) (gD G) (gY G) v0 v1 Z I L _ hZ kv0 h) (gwV W_421 W_422 W_423 W_28 W_420) rfl ⟨rfl, fy_X11_find⟩ ⟨by decide, by decide⟩ (c := 11) rfl (by decide) kv0 rfl rfl (Nat.le_of_ble_eq_true rfl) ⟨Nat.zero_le _, Nat.zero_le _⟩ dX11_returns_2 (fun v1 Z2 I3 L4 q5 => ?_)
  obtain ⟨rfl, r6, rfl, zr6, h⟩ := q5
  show jJ G 4 5 [(0, .ref v0), (1, .int v1)] (va_rf r6 :: []) Z I3 L4 0 0
  rcases c8 : r6 with _ | b7
  · have h := h.1 c8
    refine j_rfN rfl ?_
    refine j_astore_nN E 2 [(2, .null), (0, .ref v0), (1, .int v1)] dX11_returns_5 rfl (by decide) rfl ?_
    refine j_aload_nN E dX11_returns_6 0 rfl ?_
    refine j_ifnonnullN E dX11_returns_7 ?_
    refine j_iconst E (v := -1) dX11_returns_10 (by decide) ?_
    exact j_ireturn E ⟨rfl, _, rfl, h⟩ (Nat.zero_le _) (Nat.zero_le _) dX11_returns_11
  · have h := h.2 b7 c8
    have kb7 := zr6 b7 c8
    refine j_rfS rfl ?_
    refine j_astore_n E 2 [(2, .ref b7), (0, .ref v0), (1, .int v1)] dX11_returns_5 rfl (by decide) rfl ?_
    refine j_aload_n E dX11_returns_6 0 rfl ?_
    refine j_ifnonnull E 12 dX11_returns_7 (by decide) ?_
    refine j_aload_n E dX11_returns_12 0 rfl ?_
    refine j_getiN E 5 5 rfl rfl (by decide) (by decide) (iw iT_5) rfl rfl (nw_5_5_X11_201) kb7 dX11_returns_13 ?_
    refine j_topi (fun x9 ex9 => ?_)
    have h := h x9 ex9
    refine j_istore_n E 3 [(3, .int x9), (2, .ref b7), (0, .ref v0), (1, .int v1)] dX11_returns_16 rfl (by decide) rfl ?_
    refine j_aload_n E dX11_returns_17 1 rfl ?_
    refine j_iconst E (v := -1) dX11_returns_18 (by decide) ?_
    refine j_putiN E 5 5 rfl rfl (by decide) (by decide) (iw iT_5) tyX5_ok nmX5 rfl rfl (nw_5_5_X11_201) rfl rfl rfl kb7 dX11_returns_19 ?_
    refine j_nmI (fun I10 eI10 => ?_)
    have h := h I10 eI10
    refine j_aload_n E dX11_returns_22 1 rfl ?_
    refine j_aload_n E dX11_returns_23 1 rfl ?_
    refine j_getiN E 5 0 rfl rfl (by decide) (by decide) (iw iT_5) rfl rfl (nw_5_0_X11_216) kb7 dX11_returns_24 ?_
    refine j_putiN E 5 6 rfl rfl (by decide) (by decide) (iw iT_5) tyX5_ok nmX5 rfl rfl (nw_5_6_X11_204) rfl rfl rfl kb7 dX11_returns_27 ?_
    refine j_nmI (fun I11 eI11 => ?_)
    have h := h I11 eI11
    refine j_iload_n E dX11_returns_30 0 rfl ?_
    exact j_ireturn E ⟨rfl, _, rfl, h⟩ (Nat.zero_le _) (Nat.zero_le _) dX11_returns_31
set_option maxRecDepth 100000 in
def f_X11_earned (v0 : Nat) (v1 : Int32) (Z : jZ) (I : jI) (L : jL) (Q : Int32 → jI → jL → Prop) : Prop := (f_X11_isFamily v1 Z I L (fun r6 I3 L4 => ((¬ r6 = 0 → (∀ b8 : Nat, jr Z v0 2 = some b8 → (∀ b9 : Nat, jr Z b8 4 = some b9 → (f_X4_sumOf b9 v1 Z I3 L4 (fun r15 I12 L13 => (f_X11_tellOne v0 (r15.toInt64) Z I12 L13 (fun I18 L19 => (∀ b21 : Nat, jr Z v0 5 = some b21 → (vp_in v1 8 ∧ Q (I18 b21 v1.toNatClampNeg) I18 L19))))))))) ∧ (r6 = 0 → Q (-1 : Int32) I3 L4))))
set_option maxHeartbeats 4000000 in
set_option maxRecDepth 100000 in
theorem c_X11_earned (l : Launch) (D : va_G) (cy : jC) (v0 : Nat) (v1 : Int32) (Z : jZ) (I : jI) (L : jL) (Q : Int32 → jI → jL → Prop) (hZ : SH Z) (kv0 : jk Z v0 11) (h : f_X11_earned v0 v1 Z I L Q) : jCt l yX11_earned w_X11_earned { frames := 3, cells := 0, slots := 0, locals := 65 } D cy [.ref v0, .int v1] Z I L (rtI Z Q) := by
  refine jCt_of (cc := cX11_earned) (maxL := 2) (ret := (some .int)) (by decide +kernel) rfl (Nat.le_of_ble_eq_true rfl) ?_
  intro G eD eY eL E
  subst eD; subst eY; subst eL
  have E : jE G cX11_earned RX11 w_X11_earned 2 (some .int) { frames := 3, cells := 0, slots := 0, locals := 65 } (rtI Z Q) := E
  show jJ G 2 0 [(0, .ref v0), (1, .int v1)] [] Z I L 0 0
  refine j_iload_n E dX11_earned_0 1 rfl ?_
  refine j_callS E [.int v1] [] (c_X11_isFamily (gL G) (gD G) (gY G) v1 Z I L _ hZ  h) (gwS W_460 W_214 W_28 W_213) rfl fy_X11_isFamily ⟨by decide, by decide⟩ rfl rfl (Nat.le_of_ble_eq_true rfl) ⟨Nat.zero_le _, Nat.zero_le _⟩ dX11_earned_1 (fun v1 Z2 I3 L4 q5 => ?_)
  obtain ⟨rfl, r6, rfl, zr6, h⟩ := q5
  show jJ G 2 4 [(0, .ref v0), (1, .int v1)] [.int r6] Z I3 L4 0 0
  refine j_if_ne E 9 dX11_earned_4 (by decide) (fun c7 => ?_) (fun c7 => ?_)
  · have h := h.1 c7
    refine j_aload_n E dX11_earned_9 0 rfl ?_
    refine j_aload_n E dX11_earned_10 0 rfl ?_
    obtain ⟨b8, eb8, kb8⟩ := sh_o hZ kv0 (j := 2) (k := 8) rfl
    have h := h b8 eb8
    refine j_getr E 11 2 rfl rfl (by decide) (by decide) (iw iT_11) rfl rfl (tw W_438) kv0 eb8 dX11_earned_11 ?_
    obtain ⟨b9, eb9, kb9⟩ := sh_o hZ kb8 (j := 4) (k := 4) rfl
    have h := h b9 eb9
    refine j_getrN E 8 4 rfl rfl (by decide) (by decide) (iw iT_8) rfl rfl (nw_8_4_X11_160) kb8 eb9 dX11_earned_14 ?_
    refine j_iload_n E dX11_earned_17 1 rfl ?_
    refine j_callV E [.int v1] [.ref v0] (c_X4_sumOf (gL G) (gD G) (gY G) b9 v1 Z I3 L4 _ hZ kb9 h) (gwV W_512 W_222 W_223 W_154 W_220) rfl ⟨rfl, fy_X4_sumOf⟩ ⟨by decide, by decide⟩ (c := 4) rfl (by decide) kb9 rfl rfl (Nat.le_of_ble_eq_true rfl) ⟨Nat.zero_le _, Nat.zero_le _⟩ dX11_earned_18 (fun v10 Z11 I12 L13 q14 => ?_)
    obtain ⟨rfl, r15, rfl, h⟩ := q14
    show jJ G 2 21 [(0, .ref v0), (1, .int v1)] [.int r15, .ref v0] Z I12 L13 0 0
    refine j_i2l E dX11_earned_21 ?_
    refine j_callV E [.long (r15.toInt64)] [] (c_X11_tellOne (gL G) (gD G) (gY G) v0 (r15.toInt64) Z I12 L13 _ hZ kv0 h) (gwV W_476 W_477 W_478 W_28 W_475) rfl ⟨rfl, fy_X11_tellOne⟩ ⟨by decide, by decide⟩ (c := 11) rfl (by decide) kv0 rfl rfl (Nat.le_of_ble_eq_true rfl) ⟨Nat.zero_le _, Nat.zero_le _⟩ dX11_earned_22 (fun v16 Z17 I18 L19 q20 => ?_)
    obtain ⟨rfl, rfl, h⟩ := q20
    show jJ G 2 25 [(0, .ref v0), (1, .int v1)] [] Z I18 L19 0 0
    refine j_aload_n E dX11_earned_25 0 rfl ?_
    obtain ⟨b21, eb21, kb21, lb21⟩ := sh_f hZ kv0 (j := 5) (k := 14) (m := 8) rfl
    have h := h b21 eb21
    refine j_getr E 11 5 rfl rfl (by decide) (by decide) (iw iT_11) rfl rfl (tw W_418) kv0 eb21 dX11_earned_26 ?_
    refine j_iload_n E dX11_earned_29 1 rfl ?_
    obtain ⟨o22, h⟩ := h
    refine j_iald E kb21 (by rw [lb21]; exact o22) dX11_earned_30 ?_
    exact j_ireturn E ⟨rfl, _, rfl, h⟩ (Nat.zero_le _) (Nat.zero_le _) dX11_earned_31
  · have h := h.2 c7
    refine j_iconst E (v := -1) dX11_earned_7 (by decide) ?_
    exact j_ireturn E ⟨rfl, _, rfl, h⟩ (Nat.zero_le _) (Nat.zero_le _) dX11_earned_8
set_option maxRecDepth 100000 in
def f_X11_movesIn (v0 : Int64) (Z : jZ) (I : jI) (L : jL) (Q : Int32 → jI → jL → Prop) : Prop := Q ((((v0.toUInt64 >>> ((24 : Int32).toInt64.toUInt64 &&& Int64.toUInt64 63)).toInt64).toInt32) &&& (31 : Int32)) I L
set_option maxHeartbeats 4000000 in
set_option maxRecDepth 100000 in
theorem c_X11_movesIn (l : Launch) (D : va_G) (cy : jC) (v0 : Int64) (Z : jZ) (I : jI) (L : jL) (Q : Int32 → jI → jL → Prop) (hZ : SH Z)  (h : f_X11_movesIn v0 Z I L Q) : jCt l yX11_movesIn w_X11_movesIn { frames := 0, cells := 0, slots := 0, locals := 0 } D cy [.long v0] Z I L (rtI Z Q) := by
  refine jCt_of (cc := cX11_movesIn) (maxL := 2) (ret := (some .int)) (by decide +kernel) rfl (Nat.le_of_ble_eq_true rfl) ?_
  intro G eD eY eL E
  subst eD; subst eY; subst eL
  have E : jE G cX11_movesIn RX11 w_X11_movesIn 2 (some .int) { frames := 0, cells := 0, slots := 0, locals := 0 } (rtI Z Q) := E
  show jJ G 2 0 [(0, .long v0)] [] Z I L 0 0
  refine j_lload_n E dX11_movesIn_0 0 rfl ?_
  refine j_bipush E (v := 24) dX11_movesIn_1 (by decide) ?_
  refine j_lushr E dX11_movesIn_3 ?_
  refine j_l2i E dX11_movesIn_4 ?_
  refine j_bipush E (v := 31) dX11_movesIn_5 (by decide) ?_
  refine j_iand E dX11_movesIn_7 ?_
  exact j_ireturn E ⟨rfl, _, rfl, h⟩ (Nat.zero_le _) (Nat.zero_le _) dX11_movesIn_8
set_option maxRecDepth 100000 in
def f_X11_climb_b102 (K74 : Nat → Int64 → Int32 → jZ → jI → jL → Prop) (Q : Int32 → jZ → jI → jL → Prop) (v0 : Nat) (v3 : Int64) (v5 : Int32) (Z : jZ) (I : jI) (L : jL) : Prop := (∀ x1 : Int32, x1 = v5 + 1 → K74 v0 v3 x1 Z I L)
set_option maxHeartbeats 4000000 in
set_option maxRecDepth 100000 in
theorem m_X11_climb_b102 {G : jG} {Z0 : jZ} {Q : Int32 → jZ → jI → jL → Prop} (E : jE G cX11_climb RX11 w_X11_climb 6 (some .int) { frames := 6, cells := 0, slots := 0, locals := 150 } (xrtI Z0 Q)) (K74 : Nat → Int64 → Int32 → jZ → jI → jL → Prop) (hK74 : ∀ (v0 : Nat) (v3 : Int64) (v5 : Int32) (Z : jZ) (I : jI) (L : jL), SH Z → jext Z0 Z → jk Z v0 11 → K74 v0 v3 v5 Z I L → jJ G 6 74 [(0, .ref v0), (3, .long v3), (5, .int v5)] [] Z I L 0 0) (v0 : Nat) (v3 : Int64) (v5 : Int32) (Z : jZ) (I : jI) (L : jL) (hZ : SH Z) (hx : jext Z0 Z) (kv0 : jk Z v0 11) (h : f_X11_climb_b102 K74 Q v0 v3 v5 Z I L) : jJ G 6 102 [(0, .ref v0), (3, .long v3), (5, .int v5)] [] Z I L 0 0 := by
  obtain ⟨x1, ex1⟩ : ∃ y : Int32, y = v5 + 1 := ⟨_, rfl⟩
  have h := h x1 ex1
  refine j_iinc E x1 [(5, .int x1), (0, .ref v0), (3, .long v3)] dX11_climb_102 2 rfl (by rw [ex1]; rfl) (by decide) rfl ?_
  refine j_goto E 74 dX11_climb_105 (by decide) ?_
  refine j_sub [1, 2, 0] rfl ?_
  exact hK74 v0 v3 x1 Z I L hZ hx kv0 h
set_option maxRecDepth 100000 in
def f_X11_climb_L74  (Q : Int32 → jZ → jI → jL → Prop) : Nat → Nat → Int64 → Int32 → jZ → jI → jL → Prop
  | 0 => fun _ _ _ _ _ _ => False
  | n + 1 => fun v0 v3 v5 Z I L => (∀ b2 : Nat, jr Z v0 2 = some b2 → (((I b2 9) ≤ v5 → (f_X11_costIn v3 Z I L (fun r9 I6 L7 => Q r9 Z I6 L7))) ∧ (¬ ((I b2 9) ≤ v5) → (f_X11_treads v3 v5 Z I L (fun r15 I12 L13 => ((r15 = 0 → f_X11_climb_b102 (f_X11_climb_L74 Q n) Q v0 v3 v5 Z I12 L13) ∧ (¬ (r15 = 0) → (f_X11_tellMore v0 (v5.toInt64) Z I12 L13 (fun I19 L20 => f_X11_climb_b102 (f_X11_climb_L74 Q n) Q v0 v3 v5 Z I19 L20)))))))))
set_option maxHeartbeats 4000000 in
set_option maxRecDepth 100000 in
theorem m_X11_climb_L74 {G : jG} {Z0 : jZ} {Q : Int32 → jZ → jI → jL → Prop} (E : jE G cX11_climb RX11 w_X11_climb 6 (some .int) { frames := 6, cells := 0, slots := 0, locals := 150 } (xrtI Z0 Q))  : ∀ (n : Nat) (v0 : Nat) (v3 : Int64) (v5 : Int32) (Z : jZ) (I : jI) (L : jL), SH Z → jext Z0 Z → jk Z v0 11 → f_X11_climb_L74  Q n v0 v3 v5 Z I L → jJ G 6 74 [(0, .ref v0), (3, .long v3), (5, .int v5)] [] Z I L 0 0 := by
  intro n
  induction n with
  | zero => intro v0 v3 v5 Z I L _ _ _ h; exact h.elim
  | succ n ih =>
    intro v0 v3 v5 Z I L hZ hx kv0 h
    have h : (∀ b2 : Nat, jr Z v0 2 = some b2 → (((I b2 9) ≤ v5 → (f_X11_costIn v3 Z I L (fun r9 I6 L7 => Q r9 Z I6 L7))) ∧ (¬ ((I b2 9) ≤ v5) → (f_X11_treads v3 v5 Z I L (fun r15 I12 L13 => ((r15 = 0 → f_X11_climb_b102 (f_X11_climb_L74 Q n) Q v0 v3 v5 Z I12 L13) ∧ (¬ (r15 = 0) → (f_X11_tellMore v0 (v5.toInt64) Z I12 L13 (fun I19 L20 => f_X11_climb_b102 (f_X11_climb_L74 Q n) Q v0 v3 v5 Z I19 L20))))))))) := h
    obtain ⟨K74, eK74⟩ : ∃ K : Nat → Int64 → Int32 → jZ → jI → jL → Prop, K = f_X11_climb_L74  Q n := ⟨_, rfl⟩
    have hK74 := ih
    clear eK74 K74
    generalize f_X11_climb_L74  Q n = K74 at hK74 h
    refine j_iload E dX11_climb_74 2 rfl ?_
    refine j_aload_n E dX11_climb_76 0 rfl ?_
    obtain ⟨b2, eb2, kb2⟩ := sh_o hZ kv0 (j := 2) (k := 8) rfl
    have h := h b2 eb2
    refine j_getr E 11 2 rfl rfl (by decide) (by decide) (iw iT_11) rfl rfl (tw W_438) kv0 eb2 dX11_climb_77 ?_
    refine j_getiN E 8 9 rfl rfl (by decide) (by decide) (iw iT_8) rfl rfl (nw_8_9_X11_172) kb2 dX11_climb_80 ?_
    refine j_icmp_ge E 108 dX11_climb_83 (by decide) (fun c3 => ?_) (fun c3 => ?_)
    · have h := h.1 c3
      refine j_lload_n E dX11_climb_108 1 rfl ?_
      refine j_callS E [.long v3] [] (c_X11_costIn (gL G) (gD G) (gY G) v3 Z I L _ hZ  h) (gwS W_513 W_55 W_28 W_54) rfl fy_X11_costIn ⟨by decide, by decide⟩ rfl rfl (Nat.le_of_ble_eq_true rfl) ⟨Nat.zero_le _, Nat.zero_le _⟩ dX11_climb_109 (fun v4 Z5 I6 L7 q8 => ?_)
      obtain ⟨rfl, r9, rfl, h⟩ := q8
      show jJ G 6 112 [(0, .ref v0), (3, .long v3), (5, .int v5)] [.int r9] Z I6 L7 0 0
      exact j_ireturn E ⟨hx, hZ, _, rfl, h⟩ (Nat.zero_le _) (Nat.zero_le _) dX11_climb_112
    · have h := h.2 c3
      refine j_lload_n E dX11_climb_86 1 rfl ?_
      refine j_iload E dX11_climb_87 2 rfl ?_
      refine j_callS E [.long v3, .int v5] [] (c_X11_treads (gL G) (gD G) (gY G) v3 v5 Z I L _ hZ  h) (gwS W_514 W_131 W_28 W_130) rfl fy_X11_treads ⟨by decide, by decide⟩ rfl rfl (Nat.le_of_ble_eq_true rfl) ⟨Nat.zero_le _, Nat.zero_le _⟩ dX11_climb_89 (fun v10 Z11 I12 L13 q14 => ?_)
      obtain ⟨rfl, r15, rfl, zr15, h⟩ := q14
      show jJ G 6 92 [(0, .ref v0), (3, .long v3), (5, .int v5)] [.int r15] Z I12 L13 0 0
      refine j_if_eq E 102 dX11_climb_92 (by decide) (fun c16 => ?_) (fun c16 => ?_)
      · have h := h.1 c16
        refine j_sub [0, 1, 2] rfl ?_
        exact m_X11_climb_b102 E K74 hK74 v0 v3 v5 Z I12 L13 hZ hx kv0 h
      · have h := h.2 c16
        refine j_aload_n E dX11_climb_95 0 rfl ?_
        refine j_iload E dX11_climb_96 2 rfl ?_
        refine j_i2l E dX11_climb_98 ?_
        refine j_callV E [.long (v5.toInt64)] [] (c_X11_tellMore (gL G) (gD G) (gY G) v0 (v5.toInt64) Z I12 L13 _ hZ kv0 h) (gwV W_472 W_473 W_474 W_28 W_471) rfl ⟨rfl, fy_X11_tellMore⟩ ⟨by decide, by decide⟩ (c := 11) rfl (by decide) kv0 rfl rfl (Nat.le_of_ble_eq_true rfl) ⟨Nat.zero_le _, Nat.zero_le _⟩ dX11_climb_99 (fun v17 Z18 I19 L20 q21 => ?_)
        obtain ⟨rfl, rfl, h⟩ := q21
        show jJ G 6 102 [(0, .ref v0), (3, .long v3), (5, .int v5)] [] Z I19 L20 0 0
        refine j_sub [0, 1, 2] rfl ?_
        exact m_X11_climb_b102 E K74 hK74 v0 v3 v5 Z I19 L20 hZ hx kv0 h
set_option maxRecDepth 100000 in
def f_X11_climb (v0 : Nat) (v1 : Int32) (Z : jZ) (I : jI) (L : jL) (Q : Int32 → jZ → jI → jL → Prop) : Prop := (f_X11_find v0 v1 Z I L (fun r27 I24 L25 => ((r27 = none → Q (-1 : Int32) Z I24 L25) ∧ (∀ b28 : Nat, r27 = some b28 → (∀ b30 : Nat, jr Z v0 2 = some b30 → ((¬ (I24 b30 9) = 0 → (∀ b32 : Nat, jr Z b28 8 = some b32 → (f_X6_lay b32 (I24 b28 3) (I24 b28 4) (-1 : Int32) Z I24 L25 (fun I35 L36 => (∀ b38 : Nat, jr Z b28 8 = some b38 → (f_X6_cheapest b38 Z I35 L36 (fun r44 Z40 I41 L42 => ((¬ (lg_cmp r44 (9223372036854775807 : Int64)) = 0 → (f_X11_effortIn r44 Z40 I41 L42 (fun r53 I50 L51 => (f_X11_movesIn r44 Z40 I50 L51 (fun r59 I56 L57 => (f_X11_tellTwo v0 (r53.toInt64) (r59.toInt64) Z40 I56 L57 (fun I62 L63 => (∃ m74 : Nat, f_X11_climb_L74  Q m74 v0 r44 (0 : Int32) Z40 I62 L63)))))))) ∧ ((lg_cmp r44 (9223372036854775807 : Int64)) = 0 → Q (-2 : Int32) Z40 I41 L42))))))))) ∧ ((I24 b30 9) = 0 → Q (-1 : Int32) Z I24 L25)))))))
set_option maxHeartbeats 4000000 in
set_option maxRecDepth 100000 in
theorem c_X11_climb (l : Launch) (D : va_G) (cy : jC) (v0 : Nat) (v1 : Int32) (Z : jZ) (I : jI) (L : jL) (Q : Int32 → jZ → jI → jL → Prop) (hZ : SH Z) (kv0 : jk Z v0 11) (h : f_X11_climb v0 v1 Z I L Q) : jCt l yX11_climb w_X11_climb { frames := 6, cells := 0, slots := 0, locals := 150 } D cy [.ref v0, .int v1] Z I L (xrtI Z Q) := by
  refine jCt_of (cc := cX11_climb) (maxL := 6) (ret := (some .int)) (by decide +kernel) rfl (Nat.le_of_ble_eq_true rfl) ?_
  intro G eD eY eL E
  subst eD; subst eY; subst eL
  have E : jE G cX11_climb RX11 w_X11_climb 6 (some .int) { frames := 6, cells := 0, slots := 0, locals := 150 } (xrtI Z Q) := E
  have hx : jext Z Z := jext_rfl
  show jJ G 6 0 [(0, .ref v0), (1, .int v1)] [] Z I L 0 0
  refine j_aload_n E dX11_climb_0 0 rfl ?_
  refine j_iload_n E dX11_climb_1 1 rfl ?_
  refine j_callV E [.int v1] [] (c_X11_find (gL G) (gD G) (gY G) v0 v1 Z I L _ hZ kv0 h) (gwV W_421 W_422 W_423 W_28 W_420) rfl ⟨rfl, fy_X11_find⟩ ⟨by decide, by decide⟩ (c := 11) rfl (by decide) kv0 rfl rfl (Nat.le_of_ble_eq_true rfl) ⟨Nat.zero_le _, Nat.zero_le _⟩ dX11_climb_2 (fun v22 Z23 I24 L25 q26 => ?_)
  obtain ⟨rfl, r27, rfl, zr27, h⟩ := q26
  show jJ G 6 5 [(0, .ref v0), (1, .int v1)] (va_rf r27 :: []) Z I24 L25 0 0
  rcases c29 : r27 with _ | b28
  · have h := h.1 c29
    refine j_rfN rfl ?_
    refine j_astore_nN E 2 [(2, .null), (0, .ref v0), (1, .int v1)] dX11_climb_5 rfl (by decide) rfl ?_
    refine j_aload_nN E dX11_climb_6 0 rfl ?_
    refine j_ifnullN E 20 dX11_climb_7 (by decide) ?_
    refine j_iconst E (v := -1) dX11_climb_20 (by decide) ?_
    exact j_ireturn E ⟨hx, hZ, _, rfl, h⟩ (Nat.zero_le _) (Nat.zero_le _) dX11_climb_21
  · have h := h.2 b28 c29
    have kb28 := zr27 b28 c29
    refine j_rfS rfl ?_
    refine j_astore_n E 2 [(2, .ref b28), (0, .ref v0), (1, .int v1)] dX11_climb_5 rfl (by decide) rfl ?_
    refine j_aload_n E dX11_climb_6 0 rfl ?_
    refine j_ifnull E dX11_climb_7 ?_
    refine j_aload_n E dX11_climb_10 1 rfl ?_
    obtain ⟨b30, eb30, kb30⟩ := sh_o hZ kv0 (j := 2) (k := 8) rfl
    have h := h b30 eb30
    refine j_getr E 11 2 rfl rfl (by decide) (by decide) (iw iT_11) rfl rfl (tw W_438) kv0 eb30 dX11_climb_11 ?_
    refine j_getiN E 8 9 rfl rfl (by decide) (by decide) (iw iT_8) rfl rfl (nw_8_9_X11_172) kb30 dX11_climb_14 ?_
    refine j_if_ne E 22 dX11_climb_17 (by decide) (fun c31 => ?_) (fun c31 => ?_)
    · have h := h.1 c31
      refine j_aload_n E dX11_climb_22 0 rfl ?_
      obtain ⟨b32, eb32, kb32⟩ := sh_o hZ kb28 (j := 8) (k := 6) rfl
      have h := h b32 eb32
      refine j_getrN E 5 8 rfl rfl (by decide) (by decide) (iw iT_5) rfl rfl (nw_5_8_X11_263) kb28 eb32 dX11_climb_23 ?_
      refine j_aload_n E dX11_climb_26 0 rfl ?_
      refine j_getiN E 5 3 rfl rfl (by decide) (by decide) (iw iT_5) rfl rfl (nw_5_3_X11_213) kb28 dX11_climb_27 ?_
      refine j_aload_n E dX11_climb_30 0 rfl ?_
      refine j_getiN E 5 4 rfl rfl (by decide) (by decide) (iw iT_5) rfl rfl (nw_5_4_X11_196) kb28 dX11_climb_31 ?_
      refine j_iconst E (v := -1) dX11_climb_34 (by decide) ?_
      refine j_callV E [.int (I24 b28 3), .int (I24 b28 4), .int (-1 : Int32)] [] (c_X6_lay (gL G) (gD G) (gY G) b32 (I24 b28 3) (I24 b28 4) (-1 : Int32) Z I24 L25 _ hZ kb32 h) (gwV W_516 W_517 W_518 W_21 W_515) rfl ⟨rfl, fy_X6_lay⟩ ⟨by decide, by decide⟩ (c := 6) rfl (by decide) kb32 rfl rfl (Nat.le_of_ble_eq_true rfl) ⟨Nat.zero_le _, Nat.zero_le _⟩ dX11_climb_35 (fun v33 Z34 I35 L36 q37 => ?_)
      obtain ⟨rfl, rfl, h⟩ := q37
      show jJ G 6 38 [(2, .ref b28), (0, .ref v0), (1, .int v1)] [] Z I35 L36 0 0
      refine j_aload_n E dX11_climb_38 0 rfl ?_
      obtain ⟨b38, eb38, kb38⟩ := sh_o hZ kb28 (j := 8) (k := 6) rfl
      have h := h b38 eb38
      refine j_getrN E 5 8 rfl rfl (by decide) (by decide) (iw iT_5) rfl rfl (nw_5_8_X11_263) kb28 eb38 dX11_climb_39 ?_
      refine j_callV E [] [] (c_X6_cheapest (gL G) (gD G) (gY G) b38 Z I35 L36 _ hZ kb38 h) (gwV W_520 W_521 W_522 W_21 W_519) rfl ⟨rfl, fy_X6_cheapest⟩ ⟨by decide, by decide⟩ (c := 6) rfl (by decide) kb38 rfl rfl (Nat.le_of_ble_eq_true rfl) ⟨Nat.zero_le _, Nat.zero_le _⟩ dX11_climb_42 (fun v39 Z40 I41 L42 q43 => ?_)
      obtain ⟨yZ40, hZ40, r44, rfl, h⟩ := q43
      have hZ := hZ40
      have hx : jext Z Z40 := jext_trans hx yZ40
      have k45 := (yZ40 _ _ kv0).1
      have k46 := (yZ40 _ _ kb28).1
      show jJ G 6 45 [(2, .ref b28), (0, .ref v0), (1, .int v1)] [.long r44] Z40 I41 L42 0 0
      refine j_lstore_n E 3 [(3, .long r44), (2, .ref b28), (0, .ref v0), (1, .int v1)] dX11_climb_45 rfl (by decide) rfl ?_
      refine j_lload_n E dX11_climb_46 0 rfl ?_
      refine j_ldc2 E (tw W_523) dX11_climb_47 ?_
      refine j_lcmp E dX11_climb_50 ?_
      refine j_if_ne E 57 dX11_climb_51 (by decide) (fun c47 => ?_) (fun c47 => ?_)
      · have h := h.1 c47
        refine j_aload_n E dX11_climb_57 2 rfl ?_
        refine j_lload_n E dX11_climb_58 0 rfl ?_
        refine j_callS E [.long r44] [.ref v0] (c_X11_effortIn (gL G) (gD G) (gY G) r44 Z40 I41 L42 _ hZ  h) (gwS W_524 W_57 W_28 W_56) rfl fy_X11_effortIn ⟨by decide, by decide⟩ rfl rfl (Nat.le_of_ble_eq_true rfl) ⟨Nat.zero_le _, Nat.zero_le _⟩ dX11_climb_59 (fun v48 Z49 I50 L51 q52 => ?_)
        obtain ⟨rfl, r53, rfl, h⟩ := q52
        show jJ G 6 62 [(3, .long r44), (2, .ref b28), (0, .ref v0), (1, .int v1)] [.int r53, .ref v0] Z40 I50 L51 0 0
        refine j_i2l E dX11_climb_62 ?_
        refine j_lload_n E dX11_climb_63 0 rfl ?_
        refine j_callS E [.long r44] [.long (r53.toInt64), .ref v0] (c_X11_movesIn (gL G) (gD G) (gY G) r44 Z40 I50 L51 _ hZ  h) (gwS W_526 W_527 W_28 W_525) rfl fy_X11_movesIn ⟨by decide, by decide⟩ rfl rfl (Nat.le_of_ble_eq_true rfl) ⟨Nat.zero_le _, Nat.zero_le _⟩ dX11_climb_64 (fun v54 Z55 I56 L57 q58 => ?_)
        obtain ⟨rfl, r59, rfl, h⟩ := q58
        show jJ G 6 67 [(3, .long r44), (2, .ref b28), (0, .ref v0), (1, .int v1)] [.int r59, .long (r53.toInt64), .ref v0] Z40 I56 L57 0 0
        refine j_i2l E dX11_climb_67 ?_
        refine j_callV E [.long (r53.toInt64), .long (r59.toInt64)] [] (c_X11_tellTwo (gL G) (gD G) (gY G) v0 (r53.toInt64) (r59.toInt64) Z40 I56 L57 _ hZ k45 h) (gwV W_485 W_486 W_487 W_28 W_484) rfl ⟨rfl, fy_X11_tellTwo⟩ ⟨by decide, by decide⟩ (c := 11) rfl (by decide) k45 rfl rfl (Nat.le_of_ble_eq_true rfl) ⟨Nat.zero_le _, Nat.zero_le _⟩ dX11_climb_68 (fun v60 Z61 I62 L63 q64 => ?_)
        obtain ⟨rfl, rfl, h⟩ := q64
        show jJ G 6 71 [(3, .long r44), (2, .ref b28), (0, .ref v0), (1, .int v1)] [] Z40 I62 L63 0 0
        refine j_iconst E (v := 0) dX11_climb_71 (by decide) ?_
        refine j_istore E 5 [(5, .int (0 : Int32)), (3, .long r44), (2, .ref b28), (0, .ref v0), (1, .int v1)] dX11_climb_72 (by decide) rfl ?_
        obtain ⟨n65, h⟩ := h
        refine j_sub [3, 1, 0] rfl ?_
        exact m_X11_climb_L74 E  n65 v0 r44 (0 : Int32) Z40 I62 L63 hZ hx k45 h
      · have h := h.2 c47
        refine j_bipush E (v := -2) dX11_climb_54 (by decide) ?_
        exact j_ireturn E ⟨hx, hZ, _, rfl, h⟩ (Nat.zero_le _) (Nat.zero_le _) dX11_climb_56
    · have h := h.2 c31
      refine j_iconst E (v := -1) dX11_climb_20 (by decide) ?_
      exact j_ireturn E ⟨hx, hZ, _, rfl, h⟩ (Nat.zero_le _) (Nat.zero_le _) dX11_climb_21
set_option maxRecDepth 100000 in
def f_X11_knees (v0 : Nat) (v1 : Int32) (Z : jZ) (I : jI) (L : jL) (Q : Int32 → jZ → jI → jL → Prop) : Prop := (f_X11_find v0 v1 Z I L (fun r6 I3 L4 => ((r6 = none → Q (-1 : Int32) Z I3 L4) ∧ (∀ b7 : Nat, r6 = some b7 → (∀ b9 : Nat, jr Z v0 2 = some b9 → ((¬ (I3 b9 9) = 0 → (∀ b11 : Nat, jr Z b7 8 = some b11 → (f_X6_lay b11 (I3 b7 3) (I3 b7 4) (-1 : Int32) Z I3 L4 (fun I14 L15 => (∀ b17 : Nat, jr Z v0 9 = some b17 → (∀ b18 : Nat, jr Z b7 8 = some b18 → (f_X0_easiest b17 b18 Z I14 L15 (fun r24 Z20 I21 L22 => ((¬ (lg_cmp r24 (9223372036854775807 : Int64)) = 0 → (f_X11_costIn r24 Z20 I21 L22 (fun r33 I30 L31 => (f_X11_tellOne v0 (r33.toInt64) Z20 I30 L31 (fun I36 L37 => (f_X11_effortIn r24 Z20 I36 L37 (fun r44 I41 L42 => Q r44 Z20 I41 L42))))))) ∧ ((lg_cmp r24 (9223372036854775807 : Int64)) = 0 → Q (-2 : Int32) Z20 I21 L22)))))))))) ∧ ((I3 b9 9) = 0 → Q (-1 : Int32) Z I3 L4)))))))
set_option maxHeartbeats 4000000 in
set_option maxRecDepth 100000 in
theorem c_X11_knees (l : Launch) (D : va_G) (cy : jC) (v0 : Nat) (v1 : Int32) (Z : jZ) (I : jI) (L : jL) (Q : Int32 → jZ → jI → jL → Prop) (hZ : SH Z) (kv0 : jk Z v0 11) (h : f_X11_knees v0 v1 Z I L Q) : jCt l yX11_knees w_X11_knees { frames := 6, cells := 0, slots := 0, locals := 150 } D cy [.ref v0, .int v1] Z I L (xrtI Z Q) := by
  refine jCt_of (cc := cX11_knees) (maxL := 5) (ret := (some .int)) (by decide +kernel) rfl (Nat.le_of_ble_eq_true rfl) ?_
  intro G eD eY eL E
  subst eD; subst eY; subst eL
  have E : jE G cX11_knees RX11 w_X11_knees 5 (some .int) { frames := 6, cells := 0, slots := 0, locals := 150 } (xrtI Z Q) := E
  have hx : jext Z Z := jext_rfl
  show jJ G 5 0 [(0, .ref v0), (1, .int v1)] [] Z I L 0 0
  refine j_aload_n E dX11_knees_0 0 rfl ?_
  refine j_iload_n E dX11_knees_1 1 rfl ?_
  refine j_callV E [.int v1] [] (c_X11_find (gL G) (gD G) (gY G) v0 v1 Z I L _ hZ kv0 h) (gwV W_421 W_422 W_423 W_28 W_420) rfl ⟨rfl, fy_X11_find⟩ ⟨by decide, by decide⟩ (c := 11) rfl (by decide) kv0 rfl rfl (Nat.le_of_ble_eq_true rfl) ⟨Nat.zero_le _, Nat.zero_le _⟩ dX11_knees_2 (fun v1 Z2 I3 L4 q5 => ?_)
  obtain ⟨rfl, r6, rfl, zr6, h⟩ := q5
  show jJ G 5 5 [(0, .ref v0), (1, .int v1)] (va_rf r6 :: []) Z I3 L4 0 0
  rcases c8 : r6 with _ | b7
  · have h := h.1 c8
    refine j_rfN rfl ?_
    refine j_astore_nN E 2 [(2, .null), (0, .ref v0), (1, .int v1)] dX11_knees_5 rfl (by decide) rfl ?_
    refine j_aload_nN E dX11_knees_6 0 rfl ?_
    refine j_ifnullN E 20 dX11_knees_7 (by decide) ?_
    refine j_iconst E (v := -1) dX11_knees_20 (by decide) ?_
    exact j_ireturn E ⟨hx, hZ, _, rfl, h⟩ (Nat.zero_le _) (Nat.zero_le _) dX11_knees_21
  · have h := h.2 b7 c8
    have kb7 := zr6 b7 c8
    refine j_rfS rfl ?_
    refine j_astore_n E 2 [(2, .ref b7), (0, .ref v0), (1, .int v1)] dX11_knees_5 rfl (by decide) rfl ?_
    refine j_aload_n E dX11_knees_6 0 rfl ?_
    refine j_ifnull E dX11_knees_7 ?_
    refine j_aload_n E dX11_knees_10 1 rfl ?_
    obtain ⟨b9, eb9, kb9⟩ := sh_o hZ kv0 (j := 2) (k := 8) rfl
    have h := h b9 eb9
    refine j_getr E 11 2 rfl rfl (by decide) (by decide) (iw iT_11) rfl rfl (tw W_438) kv0 eb9 dX11_knees_11 ?_
    refine j_getiN E 8 9 rfl rfl (by decide) (by decide) (iw iT_8) rfl rfl (nw_8_9_X11_172) kb9 dX11_knees_14 ?_
    refine j_if_ne E 22 dX11_knees_17 (by decide) (fun c10 => ?_) (fun c10 => ?_)
    · have h := h.1 c10
      refine j_aload_n E dX11_knees_22 0 rfl ?_
      obtain ⟨b11, eb11, kb11⟩ := sh_o hZ kb7 (j := 8) (k := 6) rfl
      have h := h b11 eb11
      refine j_getrN E 5 8 rfl rfl (by decide) (by decide) (iw iT_5) rfl rfl (nw_5_8_X11_263) kb7 eb11 dX11_knees_23 ?_
      refine j_aload_n E dX11_knees_26 0 rfl ?_
      refine j_getiN E 5 3 rfl rfl (by decide) (by decide) (iw iT_5) rfl rfl (nw_5_3_X11_213) kb7 dX11_knees_27 ?_
      refine j_aload_n E dX11_knees_30 0 rfl ?_
      refine j_getiN E 5 4 rfl rfl (by decide) (by decide) (iw iT_5) rfl rfl (nw_5_4_X11_196) kb7 dX11_knees_31 ?_
      refine j_iconst E (v := -1) dX11_knees_34 (by decide) ?_
      refine j_callV E [.int (I3 b7 3), .int (I3 b7 4), .int (-1 : Int32)] [] (c_X6_lay (gL G) (gD G) (gY G) b11 (I3 b7 3) (I3 b7 4) (-1 : Int32) Z I3 L4 _ hZ kb11 h) (gwV W_516 W_517 W_518 W_21 W_515) rfl ⟨rfl, fy_X6_lay⟩ ⟨by decide, by decide⟩ (c := 6) rfl (by decide) kb11 rfl rfl (Nat.le_of_ble_eq_true rfl) ⟨Nat.zero_le _, Nat.zero_le _⟩ dX11_knees_35 (fun v12 Z13 I14 L15 q16 => ?_)
      obtain ⟨rfl, rfl, h⟩ := q16
      show jJ G 5 38 [(2, .ref b7), (0, .ref v0), (1, .int v1)] [] Z I14 L15 0 0
      refine j_aload_n E dX11_knees_38 1 rfl ?_
      obtain ⟨b17, eb17, kb17⟩ := sh_o hZ kv0 (j := 9) (k := 0) rfl
      have h := h b17 eb17
      refine j_getr E 11 9 rfl rfl (by decide) (by decide) (iw iT_11) rfl rfl (tw W_528) kv0 eb17 dX11_knees_39 ?_
      refine j_aload_n E dX11_knees_42 0 rfl ?_
      obtain ⟨b18, eb18, kb18⟩ := sh_o hZ kb7 (j := 8) (k := 6) rfl
      have h := h b18 eb18
      refine j_getrN E 5 8 rfl rfl (by decide) (by decide) (iw iT_5) rfl rfl (nw_5_8_X11_263) kb7 eb18 dX11_knees_43 ?_
      refine j_callV E [.ref b18] [] (c_X0_easiest (gL G) (gD G) (gY G) b17 b18 Z I14 L15 _ hZ kb17 kb18 h) (gwV W_530 W_531 W_532 W_86 W_529) rfl ⟨rfl, fy_X0_easiest⟩ ⟨by decide, by decide⟩ (c := 0) rfl (by decide) kb17 rfl rfl (Nat.le_of_ble_eq_true rfl) ⟨Nat.zero_le _, Nat.zero_le _⟩ dX11_knees_46 (fun v19 Z20 I21 L22 q23 => ?_)
      obtain ⟨yZ20, hZ20, r24, rfl, h⟩ := q23
      have hZ := hZ20
      have hx : jext Z Z20 := jext_trans hx yZ20
      have k25 := (yZ20 _ _ kv0).1
      have k26 := (yZ20 _ _ kb7).1
      show jJ G 5 49 [(2, .ref b7), (0, .ref v0), (1, .int v1)] [.long r24] Z20 I21 L22 0 0
      refine j_lstore_n E 3 [(3, .long r24), (2, .ref b7), (0, .ref v0), (1, .int v1)] dX11_knees_49 rfl (by decide) rfl ?_
      refine j_lload_n E dX11_knees_50 0 rfl ?_
      refine j_ldc2 E (tw W_523) dX11_knees_51 ?_
      refine j_lcmp E dX11_knees_54 ?_
      refine j_if_ne E 61 dX11_knees_55 (by decide) (fun c27 => ?_) (fun c27 => ?_)
      · have h := h.1 c27
        refine j_aload_n E dX11_knees_61 2 rfl ?_
        refine j_lload_n E dX11_knees_62 0 rfl ?_
        refine j_callS E [.long r24] [.ref v0] (c_X11_costIn (gL G) (gD G) (gY G) r24 Z20 I21 L22 _ hZ  h) (gwS W_513 W_55 W_28 W_54) rfl fy_X11_costIn ⟨by decide, by decide⟩ rfl rfl (Nat.le_of_ble_eq_true rfl) ⟨Nat.zero_le _, Nat.zero_le _⟩ dX11_knees_63 (fun v28 Z29 I30 L31 q32 => ?_)
        obtain ⟨rfl, r33, rfl, h⟩ := q32
        show jJ G 5 66 [(3, .long r24), (2, .ref b7), (0, .ref v0), (1, .int v1)] [.int r33, .ref v0] Z20 I30 L31 0 0
        refine j_i2l E dX11_knees_66 ?_
        refine j_callV E [.long (r33.toInt64)] [] (c_X11_tellOne (gL G) (gD G) (gY G) v0 (r33.toInt64) Z20 I30 L31 _ hZ k25 h) (gwV W_476 W_477 W_478 W_28 W_475) rfl ⟨rfl, fy_X11_tellOne⟩ ⟨by decide, by decide⟩ (c := 11) rfl (by decide) k25 rfl rfl (Nat.le_of_ble_eq_true rfl) ⟨Nat.zero_le _, Nat.zero_le _⟩ dX11_knees_67 (fun v34 Z35 I36 L37 q38 => ?_)
        obtain ⟨rfl, rfl, h⟩ := q38
        show jJ G 5 70 [(3, .long r24), (2, .ref b7), (0, .ref v0), (1, .int v1)] [] Z20 I36 L37 0 0
        refine j_lload_n E dX11_knees_70 0 rfl ?_
        refine j_callS E [.long r24] [] (c_X11_effortIn (gL G) (gD G) (gY G) r24 Z20 I36 L37 _ hZ  h) (gwS W_524 W_57 W_28 W_56) rfl fy_X11_effortIn ⟨by decide, by decide⟩ rfl rfl (Nat.le_of_ble_eq_true rfl) ⟨Nat.zero_le _, Nat.zero_le _⟩ dX11_knees_71 (fun v39 Z40 I41 L42 q43 => ?_)
        obtain ⟨rfl, r44, rfl, h⟩ := q43
        show jJ G 5 74 [(3, .long r24), (2, .ref b7), (0, .ref v0), (1, .int v1)] [.int r44] Z20 I41 L42 0 0
        exact j_ireturn E ⟨hx, hZ, _, rfl, h⟩ (Nat.zero_le _) (Nat.zero_le _) dX11_knees_74
      · have h := h.2 c27
        refine j_bipush E (v := -2) dX11_knees_58 (by decide) ?_
        exact j_ireturn E ⟨hx, hZ, _, rfl, h⟩ (Nat.zero_le _) (Nat.zero_le _) dX11_knees_60
    · have h := h.2 c10
      refine j_iconst E (v := -1) dX11_knees_20 (by decide) ?_
      exact j_ireturn E ⟨hx, hZ, _, rfl, h⟩ (Nat.zero_le _) (Nat.zero_le _) dX11_knees_21
set_option maxRecDepth 100000 in
def f_X11_ways_b21  (Q : Int64 → jZ → jI → jL → Prop)  (Z : jZ) (I : jI) (L : jL) : Prop := Q (-1 : Int64) Z I L
set_option maxHeartbeats 4000000 in
set_option maxRecDepth 100000 in
theorem m_X11_ways_b21 {G : jG} {Z0 : jZ} {Q : Int64 → jZ → jI → jL → Prop} (E : jE G cX11_ways RX11 w_X11_ways 6 (some .long) { frames := 6, cells := 0, slots := 0, locals := 150 } (xrtL Z0 Q))   (Z : jZ) (I : jI) (L : jL) (hZ : SH Z) (hx : jext Z0 Z)  (h : f_X11_ways_b21  Q  Z I L) : jJ G 6 21 [] [] Z I L 0 0 := by
  refine j_ldc2 E (tw W_533) dX11_ways_21 ?_
  exact j_lreturn E ⟨hx, hZ, _, rfl, h⟩ (Nat.zero_le _) (Nat.zero_le _) dX11_ways_24
set_option maxRecDepth 100000 in
def f_X11_ways (v0 : Nat) (v1 : Int32) (v2 : Int32) (Z : jZ) (I : jI) (L : jL) (Q : Int64 → jZ → jI → jL → Prop) : Prop := (f_X11_find v0 v1 Z I L (fun r6 I3 L4 => ((r6 = none → f_X11_ways_b21  Q  Z I3 L4) ∧ (∀ b7 : Nat, r6 = some b7 → ((v2 < 0 → f_X11_ways_b21  Q  Z I3 L4) ∧ (¬ (v2 < 0) → ((v2 ≤ (999 : Int32) → (∀ b11 : Nat, jr Z b7 8 = some b11 → (f_X6_lay b11 (I3 b7 3) (I3 b7 4) (-1 : Int32) Z I3 L4 (fun I14 L15 => (∀ b17 : Nat, jr Z v0 9 = some b17 → (∀ b18 : Nat, jr Z b7 8 = some b18 → (f_X0_tally b17 b18 v2 (-1 : Int32) Z I14 L15 (fun r24 Z20 I21 L22 => (∀ b27 : Nat, jr Z20 v0 9 = some b27 → (f_X11_tellOne v0 (L22 b27 2) Z20 I21 L22 (fun I30 L31 => Q r24 Z20 I30 L31))))))))))) ∧ (¬ (v2 ≤ (999 : Int32)) → f_X11_ways_b21  Q  Z I3 L4))))))))
set_option maxHeartbeats 4000000 in
set_option maxRecDepth 100000 in
theorem c_X11_ways (l : Launch) (D : va_G) (cy : jC) (v0 : Nat) (v1 : Int32) (v2 : Int32) (Z : jZ) (I : jI) (L : jL) (Q : Int64 → jZ → jI → jL → Prop) (hZ : SH Z) (kv0 : jk Z v0 11) (h : f_X11_ways v0 v1 v2 Z I L Q) : jCt l yX11_ways w_X11_ways { frames := 6, cells := 0, slots := 0, locals := 150 } D cy [.ref v0, .int v1, .int v2] Z I L (xrtL Z Q) := by
  refine jCt_of (cc := cX11_ways) (maxL := 6) (ret := (some .long)) (by decide +kernel) rfl (Nat.le_of_ble_eq_true rfl) ?_
  intro G eD eY eL E
  subst eD; subst eY; subst eL
  have E : jE G cX11_ways RX11 w_X11_ways 6 (some .long) { frames := 6, cells := 0, slots := 0, locals := 150 } (xrtL Z Q) := E
  have hx : jext Z Z := jext_rfl
  show jJ G 6 0 [(0, .ref v0), (1, .int v1), (2, .int v2)] [] Z I L 0 0
  refine j_aload_n E dX11_ways_0 0 rfl ?_
  refine j_iload_n E dX11_ways_1 1 rfl ?_
  refine j_callV E [.int v1] [] (c_X11_find (gL G) (gD G) (gY G) v0 v1 Z I L _ hZ kv0 h) (gwV W_421 W_422 W_423 W_28 W_420) rfl ⟨rfl, fy_X11_find⟩ ⟨by decide, by decide⟩ (c := 11) rfl (by decide) kv0 rfl rfl (Nat.le_of_ble_eq_true rfl) ⟨Nat.zero_le _, Nat.zero_le _⟩ dX11_ways_2 (fun v1 Z2 I3 L4 q5 => ?_)
  obtain ⟨rfl, r6, rfl, zr6, h⟩ := q5
  show jJ G 6 5 [(0, .ref v0), (1, .int v1), (2, .int v2)] (va_rf r6 :: []) Z I3 L4 0 0
  rcases c8 : r6 with _ | b7
  · have h := h.1 c8
    refine j_rfN rfl ?_
    refine j_astore_nN E 3 [(3, .null), (0, .ref v0), (1, .int v1), (2, .int v2)] dX11_ways_5 rfl (by decide) rfl ?_
    refine j_aload_nN E dX11_ways_6 0 rfl ?_
    refine j_ifnullN E 21 dX11_ways_7 (by decide) ?_
    refine j_sub [] rfl ?_
    exact m_X11_ways_b21 E   Z I3 L4 hZ hx  h
  · have h := h.2 b7 c8
    have kb7 := zr6 b7 c8
    refine j_rfS rfl ?_
    refine j_astore_n E 3 [(3, .ref b7), (0, .ref v0), (1, .int v1), (2, .int v2)] dX11_ways_5 rfl (by decide) rfl ?_
    refine j_aload_n E dX11_ways_6 0 rfl ?_
    refine j_ifnull E dX11_ways_7 ?_
    refine j_iload_n E dX11_ways_10 3 rfl ?_
    refine j_if_lt E 21 dX11_ways_11 (by decide) (fun c9 => ?_) (fun c9 => ?_)
    · have h := h.1 c9
      refine j_sub [] rfl ?_
      exact m_X11_ways_b21 E   Z I3 L4 hZ hx  h
    · have h := h.2 c9
      refine j_iload_n E dX11_ways_14 3 rfl ?_
      refine j_sipush E (v := 999) dX11_ways_15 (by decide) ?_
      refine j_icmp_le E 25 dX11_ways_18 (by decide) (fun c10 => ?_) (fun c10 => ?_)
      · have h := h.1 c10
        refine j_aload_n E dX11_ways_25 0 rfl ?_
        obtain ⟨b11, eb11, kb11⟩ := sh_o hZ kb7 (j := 8) (k := 6) rfl
        have h := h b11 eb11
        refine j_getrN E 5 8 rfl rfl (by decide) (by decide) (iw iT_5) rfl rfl (nw_5_8_X11_263) kb7 eb11 dX11_ways_26 ?_
        refine j_aload_n E dX11_ways_29 0 rfl ?_
        refine j_getiN E 5 3 rfl rfl (by decide) (by decide) (iw iT_5) rfl rfl (nw_5_3_X11_213) kb7 dX11_ways_30 ?_
        refine j_aload_n E dX11_ways_33 0 rfl ?_
        refine j_getiN E 5 4 rfl rfl (by decide) (by decide) (iw iT_5) rfl rfl (nw_5_4_X11_196) kb7 dX11_ways_34 ?_
        refine j_iconst E (v := -1) dX11_ways_37 (by decide) ?_
        refine j_callV E [.int (I3 b7 3), .int (I3 b7 4), .int (-1 : Int32)] [] (c_X6_lay (gL G) (gD G) (gY G) b11 (I3 b7 3) (I3 b7 4) (-1 : Int32) Z I3 L4 _ hZ kb11 h) (gwV W_516 W_517 W_518 W_21 W_515) rfl ⟨rfl, fy_X6_lay⟩ ⟨by decide, by decide⟩ (c := 6) rfl (by decide) kb11 rfl rfl (Nat.le_of_ble_eq_true rfl) ⟨Nat.zero_le _, Nat.zero_le _⟩ dX11_ways_38 (fun v12 Z13 I14 L15 q16 => ?_)
        obtain ⟨rfl, rfl, h⟩ := q16
        show jJ G 6 41 [(3, .ref b7), (0, .ref v0), (1, .int v1), (2, .int v2)] [] Z I14 L15 0 0
        refine j_aload_n E dX11_ways_41 1 rfl ?_
        obtain ⟨b17, eb17, kb17⟩ := sh_o hZ kv0 (j := 9) (k := 0) rfl
        have h := h b17 eb17
        refine j_getr E 11 9 rfl rfl (by decide) (by decide) (iw iT_11) rfl rfl (tw W_528) kv0 eb17 dX11_ways_42 ?_
        refine j_aload_n E dX11_ways_45 0 rfl ?_
        obtain ⟨b18, eb18, kb18⟩ := sh_o hZ kb7 (j := 8) (k := 6) rfl
        have h := h b18 eb18
        refine j_getrN E 5 8 rfl rfl (by decide) (by decide) (iw iT_5) rfl rfl (nw_5_8_X11_263) kb7 eb18 dX11_ways_46 ?_
        refine j_iload_n E dX11_ways_49 3 rfl ?_
        refine j_iconst E (v := -1) dX11_ways_50 (by decide) ?_
        refine j_callV E [.ref b18, .int v2, .int (-1 : Int32)] [] (c_X0_tally (gL G) (gD G) (gY G) b17 b18 v2 (-1 : Int32) Z I14 L15 _ hZ kb17 kb18 h) (gwV W_535 W_536 W_537 W_86 W_534) rfl ⟨rfl, fy_X0_tally⟩ ⟨by decide, by decide⟩ (c := 0) rfl (by decide) kb17 rfl rfl (Nat.le_of_ble_eq_true rfl) ⟨Nat.zero_le _, Nat.zero_le _⟩ dX11_ways_51 (fun v19 Z20 I21 L22 q23 => ?_)
        obtain ⟨yZ20, hZ20, r24, rfl, h⟩ := q23
        have hZ := hZ20
        have hx : jext Z Z20 := jext_trans hx yZ20
        have k25 := (yZ20 _ _ kv0).1
        have k26 := (yZ20 _ _ kb7).1
        show jJ G 6 54 [(3, .ref b7), (0, .ref v0), (1, .int v1), (2, .int v2)] [.long r24] Z20 I21 L22 0 0
        refine j_lstore E 4 [(4, .long r24), (3, .ref b7), (0, .ref v0), (1, .int v1), (2, .int v2)] dX11_ways_54 (by decide) rfl ?_
        refine j_aload_n E dX11_ways_56 2 rfl ?_
        refine j_aload_n E dX11_ways_57 2 rfl ?_
        obtain ⟨b27, eb27, kb27⟩ := sh_o hZ k25 (j := 9) (k := 0) rfl
        have h := h b27 eb27
        refine j_getr E 11 9 rfl rfl (by decide) (by decide) (iw iT_11) rfl rfl (tw W_528) k25 eb27 dX11_ways_58 ?_
        refine j_getlN E 0 2 rfl rfl (by decide) (by decide) (iw iT_0) rfl rfl (nw_0_2_X11_305) kb27 dX11_ways_61 ?_
        refine j_callV E [.long (L22 b27 2)] [] (c_X11_tellOne (gL G) (gD G) (gY G) v0 (L22 b27 2) Z20 I21 L22 _ hZ k25 h) (gwV W_476 W_477 W_478 W_28 W_475) rfl ⟨rfl, fy_X11_tellOne⟩ ⟨by decide, by decide⟩ (c := 11) rfl (by decide) k25 rfl rfl (Nat.le_of_ble_eq_true rfl) ⟨Nat.zero_le _, Nat.zero_le _⟩ dX11_ways_64 (fun v28 Z29 I30 L31 q32 => ?_)
        obtain ⟨rfl, rfl, h⟩ := q32
        show jJ G 6 67 [(4, .long r24), (3, .ref b7), (0, .ref v0), (1, .int v1), (2, .int v2)] [] Z20 I30 L31 0 0
        refine j_lload E dX11_ways_67 0 rfl ?_
        exact j_lreturn E ⟨hx, hZ, _, rfl, h⟩ (Nat.zero_le _) (Nat.zero_le _) dX11_ways_69
      · have h := h.2 c10
        refine j_sub [] rfl ?_
        exact m_X11_ways_b21 E   Z I3 L4 hZ hx  h
set_option maxRecDepth 100000 in
def f_X11_tellFraction_b44  (Z : jZ) (Q : jI → jL → Prop) (v0 : Nat) (v1 : Int64) (v3 : Int64) (v5 : Int64) (I : jI) (L : jL) : Prop := (((lg_cmp v5 (0 : Int64)) = 0 → Q I L) ∧ (¬ ((lg_cmp v5 (0 : Int64)) = 0) → (¬ v5 = 0 ∧ (¬ v5 = 0 ∧ (f_X11_tellTwo v0 (v1 / v5) (v3 / v5) Z I L (fun I6 L7 => Q I6 L7))))))
set_option maxHeartbeats 4000000 in
set_option maxRecDepth 100000 in
theorem m_X11_tellFraction_b44 {G : jG} {Z : jZ} {Q : jI → jL → Prop} (E : jE G cX11_tellFraction RX11 w_X11_tellFraction 12 none { frames := 3, cells := 0, slots := 0, locals := 68 } (rtV Z Q)) (hZ : SH Z)  (v0 : Nat) (v1 : Int64) (v3 : Int64) (v5 : Int64) (I : jI) (L : jL) (kv0 : jk Z v0 11) (h : f_X11_tellFraction_b44  Z Q v0 v1 v3 v5 I L) : jJ G 12 44 [(0, .ref v0), (1, .long v1), (3, .long v3), (5, .long v5)] [] Z I L 0 0 := by
  refine j_lload E dX11_tellFraction_44 3 rfl ?_
  refine j_lconst E (v := 0) dX11_tellFraction_46 (by decide) ?_
  refine j_lcmp E dX11_tellFraction_47 ?_
  refine j_if_eq E 63 dX11_tellFraction_48 (by decide) (fun c1 => ?_) (fun c1 => ?_)
  · have h := h.1 c1
    exact j_return E ⟨rfl, rfl, h⟩ (Nat.zero_le _) (Nat.zero_le _) dX11_tellFraction_63
  · have h := h.2 c1
    refine j_aload_n E dX11_tellFraction_51 0 rfl ?_
    refine j_lload_n E dX11_tellFraction_52 1 rfl ?_
    refine j_lload E dX11_tellFraction_53 3 rfl ?_
    obtain ⟨o2, h⟩ := h
    refine j_ldiv E dX11_tellFraction_55 o2 ?_
    refine j_lload_n E dX11_tellFraction_56 2 rfl ?_
    refine j_lload E dX11_tellFraction_57 3 rfl ?_
    obtain ⟨o3, h⟩ := h
    refine j_ldiv E dX11_tellFraction_59 o3 ?_
    refine j_callV E [.long (v1 / v5), .long (v3 / v5)] [] (c_X11_tellTwo (gL G) (gD G) (gY G) v0 (v1 / v5) (v3 / v5) Z I L _ hZ kv0 h) (gwV W_485 W_486 W_487 W_28 W_484) rfl ⟨rfl, fy_X11_tellTwo⟩ ⟨by decide, by decide⟩ (c := 11) rfl (by decide) kv0 rfl rfl (Nat.le_of_ble_eq_true rfl) ⟨Nat.zero_le _, Nat.zero_le _⟩ dX11_tellFraction_60 (fun v4 Z5 I6 L7 q8 => ?_)
    obtain ⟨rfl, rfl, h⟩ := q8
    show jJ G 12 63 [(0, .ref v0), (1, .long v1), (3, .long v3), (5, .long v5)] [] Z I6 L7 0 0
    exact j_return E ⟨rfl, rfl, h⟩ (Nat.zero_le _) (Nat.zero_le _) dX11_tellFraction_63
set_option maxRecDepth 100000 in
def f_X11_tellFraction_L9  (Z : jZ) (Q : jI → jL → Prop) : Nat → Nat → Int64 → Int64 → Int64 → Int64 → Int32 → jI → jL → Prop
  | 0 => fun _ _ _ _ _ _ _ _ => False
  | n + 1 => fun v0 v1 v3 v5 v7 v9 I L => (((100 : Int32) ≤ v9 → f_X11_tellFraction_b44  Z Q v0 v1 v3 v5 I L) ∧ (¬ ((100 : Int32) ≤ v9) → (((lg_cmp v7 (0 : Int64)) = 0 → f_X11_tellFraction_b44  Z Q v0 v1 v3 v5 I L) ∧ (¬ ((lg_cmp v7 (0 : Int64)) = 0) → (¬ v7 = 0 ∧ (∀ x12 : Int64, x12 = (v5 - v5 / v7 * v7) → (∀ x13 : Int32, x13 = v9 + 1 → (f_X11_tellFraction_L9 Z Q n) v0 v1 v3 v7 x12 x13 I L)))))))
set_option maxHeartbeats 4000000 in
set_option maxRecDepth 100000 in
theorem m_X11_tellFraction_L9 {G : jG} {Z : jZ} {Q : jI → jL → Prop} (E : jE G cX11_tellFraction RX11 w_X11_tellFraction 12 none { frames := 3, cells := 0, slots := 0, locals := 68 } (rtV Z Q)) (hZ : SH Z)  : ∀ (n : Nat) (v0 : Nat) (v1 : Int64) (v3 : Int64) (v5 : Int64) (v7 : Int64) (v9 : Int32) (I : jI) (L : jL), jk Z v0 11 → f_X11_tellFraction_L9  Z Q n v0 v1 v3 v5 v7 v9 I L → jJ G 12 9 [(0, .ref v0), (1, .long v1), (3, .long v3), (5, .long v5), (7, .long v7), (9, .int v9)] [] Z I L 0 0 := by
  intro n
  induction n with
  | zero => intro v0 v1 v3 v5 v7 v9 I L _ h; exact h.elim
  | succ n ih =>
    intro v0 v1 v3 v5 v7 v9 I L kv0 h
    have h : (((100 : Int32) ≤ v9 → f_X11_tellFraction_b44  Z Q v0 v1 v3 v5 I L) ∧ (¬ ((100 : Int32) ≤ v9) → (((lg_cmp v7 (0 : Int64)) = 0 → f_X11_tellFraction_b44  Z Q v0 v1 v3 v5 I L) ∧ (¬ ((lg_cmp v7 (0 : Int64)) = 0) → (¬ v7 = 0 ∧ (∀ x12 : Int64, x12 = (v5 - v5 / v7 * v7) → (∀ x13 : Int32, x13 = v9 + 1 → (f_X11_tellFraction_L9 Z Q n) v0 v1 v3 v7 x12 x13 I L))))))) := h
    obtain ⟨K9, eK9⟩ : ∃ K : Nat → Int64 → Int64 → Int64 → Int64 → Int32 → jI → jL → Prop, K = f_X11_tellFraction_L9  Z Q n := ⟨_, rfl⟩
    have hK9 := ih
    clear eK9 K9
    generalize f_X11_tellFraction_L9  Z Q n = K9 at hK9 h
    refine j_iload E dX11_tellFraction_9 5 rfl ?_
    refine j_bipush E (v := 100) dX11_tellFraction_11 (by decide) ?_
    refine j_icmp_ge E 44 dX11_tellFraction_13 (by decide) (fun c9 => ?_) (fun c9 => ?_)
    · have h := h.1 c9
      refine j_sub [0, 1, 2, 3] rfl ?_
      exact m_X11_tellFraction_b44 E hZ  v0 v1 v3 v5 I L kv0 h
    · have h := h.2 c9
      refine j_lload E dX11_tellFraction_16 4 rfl ?_
      refine j_lconst E (v := 0) dX11_tellFraction_18 (by decide) ?_
      refine j_lcmp E dX11_tellFraction_19 ?_
      refine j_if_eq E 44 dX11_tellFraction_20 (by decide) (fun c10 => ?_) (fun c10 => ?_)
      · have h := h.1 c10
        refine j_sub [0, 1, 2, 3] rfl ?_
        exact m_X11_tellFraction_b44 E hZ  v0 v1 v3 v5 I L kv0 h
      · have h := h.2 c10
        refine j_lload E dX11_tellFraction_23 3 rfl ?_
        refine j_lload E dX11_tellFraction_25 4 rfl ?_
        obtain ⟨o11, h⟩ := h
        refine j_lrem E dX11_tellFraction_27 o11 ?_
        refine j_topl (fun x12 ex12 => ?_)
        have h := h x12 ex12
        refine j_lstore E 10 [(10, .long x12), (0, .ref v0), (1, .long v1), (3, .long v3), (5, .long v5), (7, .long v7), (9, .int v9)] dX11_tellFraction_28 (by decide) rfl ?_
        refine j_lload E dX11_tellFraction_30 5 rfl ?_
        refine j_lstore E 5 [(5, .long v7), (10, .long x12), (0, .ref v0), (1, .long v1), (3, .long v3), (7, .long v7), (9, .int v9)] dX11_tellFraction_32 (by decide) rfl ?_
        refine j_lload E dX11_tellFraction_34 1 rfl ?_
        refine j_lstore E 7 [(7, .long x12), (5, .long v7), (10, .long x12), (0, .ref v0), (1, .long v1), (3, .long v3), (9, .int v9)] dX11_tellFraction_36 (by decide) rfl ?_
        obtain ⟨x13, ex13⟩ : ∃ y : Int32, y = v9 + 1 := ⟨_, rfl⟩
        have h := h x13 ex13
        refine j_iinc E x13 [(9, .int x13), (7, .long x12), (5, .long v7), (10, .long x12), (0, .ref v0), (1, .long v1), (3, .long v3)] dX11_tellFraction_38 6 rfl (by rw [ex13]; rfl) (by decide) rfl ?_
        refine j_goto E 9 dX11_tellFraction_41 (by decide) ?_
        refine j_sub [4, 5, 6, 2, 1, 0] rfl ?_
        exact hK9 v0 v1 v3 v7 x12 x13 I L kv0 h
set_option maxRecDepth 100000 in
def f_X11_tellFraction (v0 : Nat) (v1 : Int64) (v3 : Int64) (Z : jZ) (I : jI) (L : jL) (Q : jI → jL → Prop) : Prop := (∃ m9 : Nat, f_X11_tellFraction_L9  Z Q m9 v0 v1 v3 v3 v1 (0 : Int32) I L)
set_option maxHeartbeats 4000000 in
set_option maxRecDepth 100000 in
theorem c_X11_tellFraction (l : Launch) (D : va_G) (cy : jC) (v0 : Nat) (v1 : Int64) (v3 : Int64) (Z : jZ) (I : jI) (L : jL) (Q : jI → jL → Prop) (hZ : SH Z) (kv0 : jk Z v0 11) (h : f_X11_tellFraction v0 v1 v3 Z I L Q) : jCt l yX11_tellFraction w_X11_tellFraction { frames := 3, cells := 0, slots := 0, locals := 68 } D cy [.ref v0, .long v1, .long v3] Z I L (rtV Z Q) := by
  refine jCt_of (cc := cX11_tellFraction) (maxL := 12) (ret := none) (by decide +kernel) rfl (Nat.le_of_ble_eq_true rfl) ?_
  intro G eD eY eL E
  subst eD; subst eY; subst eL
  have E : jE G cX11_tellFraction RX11 w_X11_tellFraction 12 none { frames := 3, cells := 0, slots := 0, locals := 68 } (rtV Z Q) := E
  show jJ G 12 0 [(0, .ref v0), (1, .long v1), (3, .long v3)] [] Z I L 0 0
  refine j_lload_n E dX11_tellFraction_0 2 rfl ?_
  refine j_lstore E 5 [(5, .long v3), (0, .ref v0), (1, .long v1), (3, .long v3)] dX11_tellFraction_1 (by decide) rfl ?_
  refine j_lload_n E dX11_tellFraction_3 2 rfl ?_
  refine j_lstore E 7 [(7, .long v1), (5, .long v3), (0, .ref v0), (1, .long v1), (3, .long v3)] dX11_tellFraction_4 (by decide) rfl ?_
  refine j_iconst E (v := 0) dX11_tellFraction_6 (by decide) ?_
  refine j_istore E 9 [(9, .int (0 : Int32)), (7, .long v1), (5, .long v3), (0, .ref v0), (1, .long v1), (3, .long v3)] dX11_tellFraction_7 (by decide) rfl ?_
  obtain ⟨n14, h⟩ := h
  refine j_sub [3, 4, 5, 2, 1, 0] rfl ?_
  exact m_X11_tellFraction_L9 E hZ  n14 v0 v1 v3 v3 v1 (0 : Int32) I L kv0 h
set_option maxRecDepth 100000 in
def f_X11_trod (v0 : Nat) (v1 : Int32) (v2 : Int32) (v3 : Int32) (Z : jZ) (I : jI) (L : jL) (Q : Int32 → jZ → jI → jL → Prop) : Prop := (f_X11_find v0 v1 Z I L (fun r6 I3 L4 => ((r6 = none → Q (-1 : Int32) Z I3 L4) ∧ (∀ b7 : Nat, r6 = some b7 → ((v2 < 0 → Q (-1 : Int32) Z I3 L4) ∧ (¬ (v2 < 0) → (((999 : Int32) < v2 → Q (-1 : Int32) Z I3 L4) ∧ (¬ ((999 : Int32) < v2) → (∀ b11 : Nat, jr Z v0 2 = some b11 → (f_X8_has b11 v3 Z I3 L4 (fun r17 I14 L15 => ((¬ r17 = 0 → (∀ b19 : Nat, jr Z b7 8 = some b19 → (f_X6_lay b19 (I14 b7 3) (I14 b7 4) (-1 : Int32) Z I14 L15 (fun I22 L23 => (∀ b25 : Nat, jr Z v0 9 = some b25 → (∀ b26 : Nat, jr Z b7 8 = some b26 → (f_X0_tally b25 b26 v2 (-1 : Int32) Z I22 L23 (fun r32 Z28 I29 L30 => ((¬ (lg_cmp r32 (0 : Int64)) = 0 → (∀ b36 : Nat, jr Z28 v0 9 = some b36 → (∀ b37 : Nat, jr Z28 b7 8 = some b37 → (f_X0_tally b36 b37 v2 v3 Z28 I29 L30 (fun r43 Z39 I40 L41 => (f_X11_tellFraction v0 r43 r32 Z39 I40 L41 (fun I48 L49 => Q (0 : Int32) Z39 I48 L49))))))) ∧ ((lg_cmp r32 (0 : Int64)) = 0 → Q (-2 : Int32) Z28 I29 L30)))))))))) ∧ (r17 = 0 → Q (-1 : Int32) Z I14 L15)))))))))))))
set_option maxHeartbeats 4000000 in
set_option maxRecDepth 100000 in
theorem c_X11_trod (l : Launch) (D : va_G) (cy : jC) (v0 : Nat) (v1 : Int32) (v2 : Int32) (v3 : Int32) (Z : jZ) (I : jI) (L : jL) (Q : Int32 → jZ → jI → jL → Prop) (hZ : SH Z) (kv0 : jk Z v0 11) (h : f_X11_trod v0 v1 v2 v3 Z I L Q) : jCt l yX11_trod w_X11_trod { frames := 6, cells := 0, slots := 0, locals := 150 } D cy [.ref v0, .int v1, .int v2, .int v3] Z I L (xrtI Z Q) := by
  refine jCt_of (cc := cX11_trod) (maxL := 7) (ret := (some .int)) (by decide +kernel) rfl (Nat.le_of_ble_eq_true rfl) ?_
  intro G eD eY eL E
  subst eD; subst eY; subst eL
  have E : jE G cX11_trod RX11 w_X11_trod 7 (some .int) { frames := 6, cells := 0, slots := 0, locals := 150 } (xrtI Z Q) := E
  have hx : jext Z Z := jext_rfl
  show jJ G 7 0 [(0, .ref v0), (1, .int v1), (2, .int v2), (3, .int v3)] [] Z I L 0 0
  refine j_aload_n E dX11_trod_0 0 rfl ?_
  refine j_iload_n E dX11_trod_1 1 rfl ?_
  refine j_callV E [.int v1] [] (c_X11_find (gL G) (gD G) (gY G) v0 v1 Z I L _ hZ kv0 h) (gwV W_421 W_422 W_423 W_28 W_420) rfl ⟨rfl, fy_X11_find⟩ ⟨by decide, by decide⟩ (c := 11) rfl (by decide) kv0 rfl rfl (Nat.le_of_ble_eq_true rfl) ⟨Nat.zero_le _, Nat.zero_le _⟩ dX11_trod_2 (fun v1 Z2 I3 L4 q5 => ?_)
  obtain ⟨rfl, r6, rfl, zr6, h⟩ := q5
  show jJ G 7 5 [(0, .ref v0), (1, .int v1), (2, .int v2), (3, .int v3)] (va_rf r6 :: []) Z I3 L4 0 0
  rcases c8 : r6 with _ | b7
  · have h := h.1 c8
    refine j_rfN rfl ?_
    refine j_astoreN E 4 [(4, .null), (0, .ref v0), (1, .int v1), (2, .int v2), (3, .int v3)] dX11_trod_5 (by decide) rfl ?_
    refine j_aloadN E dX11_trod_7 0 rfl ?_
    refine j_ifnullN E 34 dX11_trod_9 (by decide) ?_
    refine j_iconst E (v := -1) dX11_trod_34 (by decide) ?_
    exact j_ireturn E ⟨hx, hZ, _, rfl, h⟩ (Nat.zero_le _) (Nat.zero_le _) dX11_trod_35
  · have h := h.2 b7 c8
    have kb7 := zr6 b7 c8
    refine j_rfS rfl ?_
    refine j_astore E 4 [(4, .ref b7), (0, .ref v0), (1, .int v1), (2, .int v2), (3, .int v3)] dX11_trod_5 (by decide) rfl ?_
    refine j_aload E dX11_trod_7 0 rfl ?_
    refine j_ifnull E dX11_trod_9 ?_
    refine j_iload_n E dX11_trod_12 3 rfl ?_
    refine j_if_lt E 34 dX11_trod_13 (by decide) (fun c9 => ?_) (fun c9 => ?_)
    · have h := h.1 c9
      refine j_iconst E (v := -1) dX11_trod_34 (by decide) ?_
      exact j_ireturn E ⟨hx, hZ, _, rfl, h⟩ (Nat.zero_le _) (Nat.zero_le _) dX11_trod_35
    · have h := h.2 c9
      refine j_iload_n E dX11_trod_16 3 rfl ?_
      refine j_sipush E (v := 999) dX11_trod_17 (by decide) ?_
      refine j_icmp_gt E 34 dX11_trod_20 (by decide) (fun c10 => ?_) (fun c10 => ?_)
      · have h := h.1 c10
        refine j_iconst E (v := -1) dX11_trod_34 (by decide) ?_
        exact j_ireturn E ⟨hx, hZ, _, rfl, h⟩ (Nat.zero_le _) (Nat.zero_le _) dX11_trod_35
      · have h := h.2 c10
        refine j_aload_n E dX11_trod_23 1 rfl ?_
        obtain ⟨b11, eb11, kb11⟩ := sh_o hZ kv0 (j := 2) (k := 8) rfl
        have h := h b11 eb11
        refine j_getr E 11 2 rfl rfl (by decide) (by decide) (iw iT_11) rfl rfl (tw W_438) kv0 eb11 dX11_trod_24 ?_
        refine j_iload_n E dX11_trod_27 4 rfl ?_
        refine j_callV E [.int v3] [] (c_X8_has (gL G) (gD G) (gY G) b11 v3 Z I3 L4 _ hZ kb11 h) (gwV W_447 W_250 W_251 W_248 W_247) rfl ⟨rfl, fy_X8_has⟩ ⟨by decide, by decide⟩ (c := 8) rfl (by decide) kb11 rfl rfl (Nat.le_of_ble_eq_true rfl) ⟨Nat.zero_le _, Nat.zero_le _⟩ dX11_trod_28 (fun v12 Z13 I14 L15 q16 => ?_)
        obtain ⟨rfl, r17, rfl, zr17, h⟩ := q16
        show jJ G 7 31 [(4, .ref b7), (0, .ref v0), (1, .int v1), (2, .int v2), (3, .int v3)] [.int r17] Z I14 L15 0 0
        refine j_if_ne E 36 dX11_trod_31 (by decide) (fun c18 => ?_) (fun c18 => ?_)
        · have h := h.1 c18
          refine j_aload E dX11_trod_36 0 rfl ?_
          obtain ⟨b19, eb19, kb19⟩ := sh_o hZ kb7 (j := 8) (k := 6) rfl
          have h := h b19 eb19
          refine j_getrN E 5 8 rfl rfl (by decide) (by decide) (iw iT_5) rfl rfl (nw_5_8_X11_263) kb7 eb19 dX11_trod_38 ?_
          refine j_aload E dX11_trod_41 0 rfl ?_
          refine j_getiN E 5 3 rfl rfl (by decide) (by decide) (iw iT_5) rfl rfl (nw_5_3_X11_213) kb7 dX11_trod_43 ?_
          refine j_aload E dX11_trod_46 0 rfl ?_
          refine j_getiN E 5 4 rfl rfl (by decide) (by decide) (iw iT_5) rfl rfl (nw_5_4_X11_196) kb7 dX11_trod_48 ?_
          refine j_iconst E (v := -1) dX11_trod_51 (by decide) ?_
          refine j_callV E [.int (I14 b7 3), .int (I14 b7 4), .int (-1 : Int32)] [] (c_X6_lay (gL G) (gD G) (gY G) b19 (I14 b7 3) (I14 b7 4) (-1 : Int32) Z I14 L15 _ hZ kb19 h) (gwV W_516 W_517 W_518 W_21 W_515) rfl ⟨rfl, fy_X6_lay⟩ ⟨by decide, by decide⟩ (c := 6) rfl (by decide) kb19 rfl rfl (Nat.le_of_ble_eq_true rfl) ⟨Nat.zero_le _, Nat.zero_le _⟩ dX11_trod_52 (fun v20 Z21 I22 L23 q24 => ?_)
          obtain ⟨rfl, rfl, h⟩ := q24
          show jJ G 7 55 [(4, .ref b7), (0, .ref v0), (1, .int v1), (2, .int v2), (3, .int v3)] [] Z I22 L23 0 0
          refine j_aload_n E dX11_trod_55 1 rfl ?_
          obtain ⟨b25, eb25, kb25⟩ := sh_o hZ kv0 (j := 9) (k := 0) rfl
          have h := h b25 eb25
          refine j_getr E 11 9 rfl rfl (by decide) (by decide) (iw iT_11) rfl rfl (tw W_528) kv0 eb25 dX11_trod_56 ?_
          refine j_aload E dX11_trod_59 0 rfl ?_
          obtain ⟨b26, eb26, kb26⟩ := sh_o hZ kb7 (j := 8) (k := 6) rfl
          have h := h b26 eb26
          refine j_getrN E 5 8 rfl rfl (by decide) (by decide) (iw iT_5) rfl rfl (nw_5_8_X11_263) kb7 eb26 dX11_trod_61 ?_
          refine j_iload_n E dX11_trod_64 3 rfl ?_
          refine j_iconst E (v := -1) dX11_trod_65 (by decide) ?_
          refine j_callV E [.ref b26, .int v2, .int (-1 : Int32)] [] (c_X0_tally (gL G) (gD G) (gY G) b25 b26 v2 (-1 : Int32) Z I22 L23 _ hZ kb25 kb26 h) (gwV W_535 W_536 W_537 W_86 W_534) rfl ⟨rfl, fy_X0_tally⟩ ⟨by decide, by decide⟩ (c := 0) rfl (by decide) kb25 rfl rfl (Nat.le_of_ble_eq_true rfl) ⟨Nat.zero_le _, Nat.zero_le _⟩ dX11_trod_66 (fun v27 Z28 I29 L30 q31 => ?_)
          obtain ⟨yZ28, hZ28, r32, rfl, h⟩ := q31
          have hZ := hZ28
          have hx : jext Z Z28 := jext_trans hx yZ28
          have k33 := (yZ28 _ _ kv0).1
          have k34 := (yZ28 _ _ kb7).1
          show jJ G 7 69 [(4, .ref b7), (0, .ref v0), (1, .int v1), (2, .int v2), (3, .int v3)] [.long r32] Z28 I29 L30 0 0
          refine j_lstore E 5 [(5, .long r32), (4, .ref b7), (0, .ref v0), (1, .int v1), (2, .int v2), (3, .int v3)] dX11_trod_69 (by decide) rfl ?_
          refine j_lload E dX11_trod_71 0 rfl ?_
          refine j_lconst E (v := 0) dX11_trod_73 (by decide) ?_
          refine j_lcmp E dX11_trod_74 ?_
          refine j_if_ne E 81 dX11_trod_75 (by decide) (fun c35 => ?_) (fun c35 => ?_)
          · have h := h.1 c35
            refine j_aload_n E dX11_trod_81 2 rfl ?_
            refine j_aload_n E dX11_trod_82 2 rfl ?_
            obtain ⟨b36, eb36, kb36⟩ := sh_o hZ k33 (j := 9) (k := 0) rfl
            have h := h b36 eb36
            refine j_getr E 11 9 rfl rfl (by decide) (by decide) (iw iT_11) rfl rfl (tw W_528) k33 eb36 dX11_trod_83 ?_
            refine j_aload E dX11_trod_86 1 rfl ?_
            obtain ⟨b37, eb37, kb37⟩ := sh_o hZ k34 (j := 8) (k := 6) rfl
            have h := h b37 eb37
            refine j_getrN E 5 8 rfl rfl (by decide) (by decide) (iw iT_5) rfl rfl (nw_5_8_X11_263) k34 eb37 dX11_trod_88 ?_
            refine j_iload_n E dX11_trod_91 4 rfl ?_
            refine j_iload_n E dX11_trod_92 5 rfl ?_
            refine j_callV E [.ref b37, .int v2, .int v3] [.ref v0] (c_X0_tally (gL G) (gD G) (gY G) b36 b37 v2 v3 Z28 I29 L30 _ hZ kb36 kb37 h) (gwV W_535 W_536 W_537 W_86 W_534) rfl ⟨rfl, fy_X0_tally⟩ ⟨by decide, by decide⟩ (c := 0) rfl (by decide) kb36 rfl rfl (Nat.le_of_ble_eq_true rfl) ⟨Nat.zero_le _, Nat.zero_le _⟩ dX11_trod_93 (fun v38 Z39 I40 L41 q42 => ?_)
            obtain ⟨yZ39, hZ39, r43, rfl, h⟩ := q42
            have hZ := hZ39
            have hx : jext Z Z39 := jext_trans hx yZ39
            have k44 := (yZ39 _ _ k33).1
            have k45 := (yZ39 _ _ k34).1
            show jJ G 7 96 [(5, .long r32), (4, .ref b7), (0, .ref v0), (1, .int v1), (2, .int v2), (3, .int v3)] [.long r43, .ref v0] Z39 I40 L41 0 0
            refine j_lload E dX11_trod_96 0 rfl ?_
            refine j_callV E [.long r43, .long r32] [] (c_X11_tellFraction (gL G) (gD G) (gY G) v0 r43 r32 Z39 I40 L41 _ hZ k44 h) (gwV W_539 W_540 W_541 W_28 W_538) rfl ⟨rfl, fy_X11_tellFraction⟩ ⟨by decide, by decide⟩ (c := 11) rfl (by decide) k44 rfl rfl (Nat.le_of_ble_eq_true rfl) ⟨Nat.zero_le _, Nat.zero_le _⟩ dX11_trod_98 (fun v46 Z47 I48 L49 q50 => ?_)
            obtain ⟨rfl, rfl, h⟩ := q50
            show jJ G 7 101 [(5, .long r32), (4, .ref b7), (0, .ref v0), (1, .int v1), (2, .int v2), (3, .int v3)] [] Z39 I48 L49 0 0
            refine j_iconst E (v := 0) dX11_trod_101 (by decide) ?_
            exact j_ireturn E ⟨hx, hZ, _, rfl, h⟩ (Nat.zero_le _) (Nat.zero_le _) dX11_trod_102
          · have h := h.2 c35
            refine j_bipush E (v := -2) dX11_trod_78 (by decide) ?_
            exact j_ireturn E ⟨hx, hZ, _, rfl, h⟩ (Nat.zero_le _) (Nat.zero_le _) dX11_trod_80
        · have h := h.2 c18
          refine j_iconst E (v := -1) dX11_trod_34 (by decide) ?_
          exact j_ireturn E ⟨hx, hZ, _, rfl, h⟩ (Nat.zero_le _) (Nat.zero_le _) dX11_trod_35
set_option maxRecDepth 100000 in
def f_X11_who_b100 (K29 : Nat → Int32 → Int32 → Int32 → Int32 → jZ → jI → jL → Prop) (Q : Int32 → jZ → jI → jL → Prop) (v0 : Nat) (v1 : Int32) (v2 : Int32) (v3 : Int32) (v4 : Int32) (Z : jZ) (I : jI) (L : jL) : Prop := (∀ x1 : Int32, x1 = v4 + 1 → K29 v0 v1 v2 v3 x1 Z I L)
set_option maxHeartbeats 4000000 in
set_option maxRecDepth 100000 in
theorem m_X11_who_b100 {G : jG} {Z0 : jZ} {Q : Int32 → jZ → jI → jL → Prop} (E : jE G cX11_who RX11 w_X11_who 6 (some .int) { frames := 6, cells := 0, slots := 0, locals := 150 } (xrtI Z0 Q)) (K29 : Nat → Int32 → Int32 → Int32 → Int32 → jZ → jI → jL → Prop) (hK29 : ∀ (v0 : Nat) (v1 : Int32) (v2 : Int32) (v3 : Int32) (v4 : Int32) (Z : jZ) (I : jI) (L : jL), SH Z → jext Z0 Z → jk Z v0 11 → K29 v0 v1 v2 v3 v4 Z I L → jJ G 6 29 [(0, .ref v0), (1, .int v1), (2, .int v2), (3, .int v3), (4, .int v4)] [] Z I L 0 0) (v0 : Nat) (v1 : Int32) (v2 : Int32) (v3 : Int32) (v4 : Int32) (Z : jZ) (I : jI) (L : jL) (hZ : SH Z) (hx : jext Z0 Z) (kv0 : jk Z v0 11) (h : f_X11_who_b100 K29 Q v0 v1 v2 v3 v4 Z I L) : jJ G 6 100 [(0, .ref v0), (1, .int v1), (2, .int v2), (3, .int v3), (4, .int v4)] [] Z I L 0 0 := by
  obtain ⟨x1, ex1⟩ : ∃ y : Int32, y = v4 + 1 := ⟨_, rfl⟩
  have h := h x1 ex1
  refine j_iinc E x1 [(4, .int x1), (0, .ref v0), (1, .int v1), (2, .int v2), (3, .int v3)] dX11_who_100 4 rfl (by rw [ex1]; rfl) (by decide) rfl ?_
  refine j_goto E 29 dX11_who_103 (by decide) ?_
  refine j_sub [1, 2, 3, 4, 0] rfl ?_
  exact hK29 v0 v1 v2 v3 x1 Z I L hZ hx kv0 h
set_option maxRecDepth 100000 in
def f_X11_who_b98 (K29 : Nat → Int32 → Int32 → Int32 → Int32 → jZ → jI → jL → Prop) (Q : Int32 → jZ → jI → jL → Prop) (v0 : Nat) (v1 : Int32) (v2 : Int32) (v4 : Int32) (s0 : Int32) (s1 : Int32) (Z : jZ) (I : jI) (L : jL) : Prop := (∀ x2 : Int32, x2 = (s0 ||| s1) → f_X11_who_b100 K29 Q v0 v1 v2 x2 v4 Z I L)
set_option maxHeartbeats 4000000 in
set_option maxRecDepth 100000 in
theorem m_X11_who_b98 {G : jG} {Z0 : jZ} {Q : Int32 → jZ → jI → jL → Prop} (E : jE G cX11_who RX11 w_X11_who 6 (some .int) { frames := 6, cells := 0, slots := 0, locals := 150 } (xrtI Z0 Q)) (K29 : Nat → Int32 → Int32 → Int32 → Int32 → jZ → jI → jL → Prop) (hK29 : ∀ (v0 : Nat) (v1 : Int32) (v2 : Int32) (v3 : Int32) (v4 : Int32) (Z : jZ) (I : jI) (L : jL), SH Z → jext Z0 Z → jk Z v0 11 → K29 v0 v1 v2 v3 v4 Z I L → jJ G 6 29 [(0, .ref v0), (1, .int v1), (2, .int v2), (3, .int v3), (4, .int v4)] [] Z I L 0 0) (v0 : Nat) (v1 : Int32) (v2 : Int32) (v4 : Int32) (s0 : Int32) (s1 : Int32) (Z : jZ) (I : jI) (L : jL) (hZ : SH Z) (hx : jext Z0 Z) (kv0 : jk Z v0 11) (h : f_X11_who_b98 K29 Q v0 v1 v2 v4 s0 s1 Z I L) : jJ G 6 98 [(0, .ref v0), (1, .int v1), (2, .int v2), (4, .int v4)] [.int s1, .int s0] Z I L 0 0 := by
  refine j_ior E dX11_who_98 ?_
  refine j_topi (fun x2 ex2 => ?_)
  have h := h x2 ex2
  refine j_istore_n E 3 [(3, .int x2), (0, .ref v0), (1, .int v1), (2, .int v2), (4, .int v4)] dX11_who_99 rfl (by decide) rfl ?_
  refine j_sub [1, 2, 3, 0, 4] rfl ?_
  exact m_X11_who_b100 E K29 hK29 v0 v1 v2 x2 v4 Z I L hZ hx kv0 h
set_option maxRecDepth 100000 in
def f_X11_who_L29  (Q : Int32 → jZ → jI → jL → Prop) : Nat → Nat → Int32 → Int32 → Int32 → Int32 → jZ → jI → jL → Prop
  | 0 => fun _ _ _ _ _ _ _ _ => False
  | n + 1 => fun v0 v1 v2 v3 v4 Z I L => (((I v0 4) ≤ v4 → Q v3 Z I L) ∧ (¬ ((I v0 4) ≤ v4) → (f_X11_find v0 v4 Z I L (fun r9 I6 L7 => ((r9 = none → f_X11_who_b100 (f_X11_who_L29 Q n) Q v0 v1 v2 v3 v4 Z I6 L7) ∧ (∀ b10 : Nat, r9 = some b10 → (∀ b12 : Nat, jr Z b10 8 = some b12 → (f_X6_lay b12 (I6 b10 3) (I6 b10 4) (-1 : Int32) Z I6 L7 (fun I15 L16 => (∀ b18 : Nat, jr Z v0 9 = some b18 → (∀ b19 : Nat, jr Z b10 8 = some b19 → (f_X0_tally b18 b19 v1 v2 Z I15 L16 (fun r25 Z21 I22 L23 => (((lg_cmp r25 (0 : Int64)) ≤ 0 → f_X11_who_b98 (f_X11_who_L29 Q n) Q v0 v1 v2 v4 v3 (0 : Int32) Z21 I22 L23) ∧ (¬ ((lg_cmp r25 (0 : Int64)) ≤ 0) → f_X11_who_b98 (f_X11_who_L29 Q n) Q v0 v1 v2 v4 v3 ((1 : Int32) <<< (v4 &&& 31)) Z21 I22 L23)))))))))))))))
set_option maxHeartbeats 4000000 in
set_option maxRecDepth 100000 in
theorem m_X11_who_L29 {G : jG} {Z0 : jZ} {Q : Int32 → jZ → jI → jL → Prop} (E : jE G cX11_who RX11 w_X11_who 6 (some .int) { frames := 6, cells := 0, slots := 0, locals := 150 } (xrtI Z0 Q))  : ∀ (n : Nat) (v0 : Nat) (v1 : Int32) (v2 : Int32) (v3 : Int32) (v4 : Int32) (Z : jZ) (I : jI) (L : jL), SH Z → jext Z0 Z → jk Z v0 11 → f_X11_who_L29  Q n v0 v1 v2 v3 v4 Z I L → jJ G 6 29 [(0, .ref v0), (1, .int v1), (2, .int v2), (3, .int v3), (4, .int v4)] [] Z I L 0 0 := by
  intro n
  induction n with
  | zero => intro v0 v1 v2 v3 v4 Z I L _ _ _ h; exact h.elim
  | succ n ih =>
    intro v0 v1 v2 v3 v4 Z I L hZ hx kv0 h
    have h : (((I v0 4) ≤ v4 → Q v3 Z I L) ∧ (¬ ((I v0 4) ≤ v4) → (f_X11_find v0 v4 Z I L (fun r9 I6 L7 => ((r9 = none → f_X11_who_b100 (f_X11_who_L29 Q n) Q v0 v1 v2 v3 v4 Z I6 L7) ∧ (∀ b10 : Nat, r9 = some b10 → (∀ b12 : Nat, jr Z b10 8 = some b12 → (f_X6_lay b12 (I6 b10 3) (I6 b10 4) (-1 : Int32) Z I6 L7 (fun I15 L16 => (∀ b18 : Nat, jr Z v0 9 = some b18 → (∀ b19 : Nat, jr Z b10 8 = some b19 → (f_X0_tally b18 b19 v1 v2 Z I15 L16 (fun r25 Z21 I22 L23 => (((lg_cmp r25 (0 : Int64)) ≤ 0 → f_X11_who_b98 (f_X11_who_L29 Q n) Q v0 v1 v2 v4 v3 (0 : Int32) Z21 I22 L23) ∧ (¬ ((lg_cmp r25 (0 : Int64)) ≤ 0) → f_X11_who_b98 (f_X11_who_L29 Q n) Q v0 v1 v2 v4 v3 ((1 : Int32) <<< (v4 &&& 31)) Z21 I22 L23))))))))))))))) := h
    obtain ⟨K29, eK29⟩ : ∃ K : Nat → Int32 → Int32 → Int32 → Int32 → jZ → jI → jL → Prop, K = f_X11_who_L29  Q n := ⟨_, rfl⟩
    have hK29 := ih
    clear eK29 K29
    generalize f_X11_who_L29  Q n = K29 at hK29 h
    refine j_iload E dX11_who_29 4 rfl ?_
    refine j_aload_n E dX11_who_31 0 rfl ?_
    refine j_geti E 11 4 rfl rfl (by decide) (by decide) (iw iT_11) rfl rfl (tw W_415) kv0 dX11_who_32 ?_
    refine j_icmp_ge E 106 dX11_who_35 (by decide) (fun c3 => ?_) (fun c3 => ?_)
    · have h := h.1 c3
      refine j_iload_n E dX11_who_106 3 rfl ?_
      exact j_ireturn E ⟨hx, hZ, _, rfl, h⟩ (Nat.zero_le _) (Nat.zero_le _) dX11_who_107
    · have h := h.2 c3
      refine j_aload_n E dX11_who_38 0 rfl ?_
      refine j_iload E dX11_who_39 4 rfl ?_
      refine j_callV E [.int v4] [] (c_X11_find (gL G) (gD G) (gY G) v0 v4 Z I L _ hZ kv0 h) (gwV W_421 W_422 W_423 W_28 W_420) rfl ⟨rfl, fy_X11_find⟩ ⟨by decide, by decide⟩ (c := 11) rfl (by decide) kv0 rfl rfl (Nat.le_of_ble_eq_true rfl) ⟨Nat.zero_le _, Nat.zero_le _⟩ dX11_who_41 (fun v4 Z5 I6 L7 q8 => ?_)
      obtain ⟨rfl, r9, rfl, zr9, h⟩ := q8
      show jJ G 6 44 [(0, .ref v0), (1, .int v1), (2, .int v2), (3, .int v3), (4, .int v4)] (va_rf r9 :: []) Z I6 L7 0 0
      rcases c11 : r9 with _ | b10
      · have h := h.1 c11
        refine j_rfN rfl ?_
        refine j_astoreN E 5 [(5, .null), (0, .ref v0), (1, .int v1), (2, .int v2), (3, .int v3), (4, .int v4)] dX11_who_44 (by decide) rfl ?_
        refine j_aloadN E dX11_who_46 0 rfl ?_
        refine j_ifnullN E 100 dX11_who_48 (by decide) ?_
        refine j_sub [1, 2, 3, 4, 5] rfl ?_
        exact m_X11_who_b100 E K29 hK29 v0 v1 v2 v3 v4 Z I6 L7 hZ hx kv0 h
      · have h := h.2 b10 c11
        have kb10 := zr9 b10 c11
        refine j_rfS rfl ?_
        refine j_astore E 5 [(5, .ref b10), (0, .ref v0), (1, .int v1), (2, .int v2), (3, .int v3), (4, .int v4)] dX11_who_44 (by decide) rfl ?_
        refine j_aload E dX11_who_46 0 rfl ?_
        refine j_ifnull E dX11_who_48 ?_
        refine j_aload E dX11_who_51 0 rfl ?_
        obtain ⟨b12, eb12, kb12⟩ := sh_o hZ kb10 (j := 8) (k := 6) rfl
        have h := h b12 eb12
        refine j_getrN E 5 8 rfl rfl (by decide) (by decide) (iw iT_5) rfl rfl (nw_5_8_X11_263) kb10 eb12 dX11_who_53 ?_
        refine j_aload E dX11_who_56 0 rfl ?_
        refine j_getiN E 5 3 rfl rfl (by decide) (by decide) (iw iT_5) rfl rfl (nw_5_3_X11_213) kb10 dX11_who_58 ?_
        refine j_aload E dX11_who_61 0 rfl ?_
        refine j_getiN E 5 4 rfl rfl (by decide) (by decide) (iw iT_5) rfl rfl (nw_5_4_X11_196) kb10 dX11_who_63 ?_
        refine j_iconst E (v := -1) dX11_who_66 (by decide) ?_
        refine j_callV E [.int (I6 b10 3), .int (I6 b10 4), .int (-1 : Int32)] [] (c_X6_lay (gL G) (gD G) (gY G) b12 (I6 b10 3) (I6 b10 4) (-1 : Int32) Z I6 L7 _ hZ kb12 h) (gwV W_516 W_517 W_518 W_21 W_515) rfl ⟨rfl, fy_X6_lay⟩ ⟨by decide, by decide⟩ (c := 6) rfl (by decide) kb12 rfl rfl (Nat.le_of_ble_eq_true rfl) ⟨Nat.zero_le _, Nat.zero_le _⟩ dX11_who_67 (fun v13 Z14 I15 L16 q17 => ?_)
        obtain ⟨rfl, rfl, h⟩ := q17
        show jJ G 6 70 [(5, .ref b10), (0, .ref v0), (1, .int v1), (2, .int v2), (3, .int v3), (4, .int v4)] [] Z I15 L16 0 0
        refine j_iload_n E dX11_who_70 4 rfl ?_
        refine j_aload_n E dX11_who_71 1 rfl ?_
        obtain ⟨b18, eb18, kb18⟩ := sh_o hZ kv0 (j := 9) (k := 0) rfl
        have h := h b18 eb18
        refine j_getr E 11 9 rfl rfl (by decide) (by decide) (iw iT_11) rfl rfl (tw W_528) kv0 eb18 dX11_who_72 ?_
        refine j_aload E dX11_who_75 0 rfl ?_
        obtain ⟨b19, eb19, kb19⟩ := sh_o hZ kb10 (j := 8) (k := 6) rfl
        have h := h b19 eb19
        refine j_getrN E 5 8 rfl rfl (by decide) (by decide) (iw iT_5) rfl rfl (nw_5_8_X11_263) kb10 eb19 dX11_who_77 ?_
        refine j_iload_n E dX11_who_80 2 rfl ?_
        refine j_iload_n E dX11_who_81 3 rfl ?_
        refine j_callV E [.ref b19, .int v1, .int v2] [.int v3] (c_X0_tally (gL G) (gD G) (gY G) b18 b19 v1 v2 Z I15 L16 _ hZ kb18 kb19 h) (gwV W_535 W_536 W_537 W_86 W_534) rfl ⟨rfl, fy_X0_tally⟩ ⟨by decide, by decide⟩ (c := 0) rfl (by decide) kb18 rfl rfl (Nat.le_of_ble_eq_true rfl) ⟨Nat.zero_le _, Nat.zero_le _⟩ dX11_who_82 (fun v20 Z21 I22 L23 q24 => ?_)
        obtain ⟨yZ21, hZ21, r25, rfl, h⟩ := q24
        have hZ := hZ21
        have hx : jext Z0 Z21 := jext_trans hx yZ21
        have k26 := (yZ21 _ _ kv0).1
        have k27 := (yZ21 _ _ kb10).1
        show jJ G 6 85 [(5, .ref b10), (0, .ref v0), (1, .int v1), (2, .int v2), (3, .int v3), (4, .int v4)] [.long r25, .int v3] Z21 I22 L23 0 0
        refine j_lconst E (v := 0) dX11_who_85 (by decide) ?_
        refine j_lcmp E dX11_who_86 ?_
        refine j_if_le E 97 dX11_who_87 (by decide) (fun c28 => ?_) (fun c28 => ?_)
        · have h := h.1 c28
          refine j_iconst E (v := 0) dX11_who_97 (by decide) ?_
          refine j_sub [1, 2, 3, 5] rfl ?_
          exact m_X11_who_b98 E K29 hK29 v0 v1 v2 v4 v3 (0 : Int32) Z21 I22 L23 hZ hx k26 h
        · have h := h.2 c28
          refine j_iconst E (v := 1) dX11_who_90 (by decide) ?_
          refine j_iload E dX11_who_91 5 rfl ?_
          refine j_ishl E dX11_who_93 ?_
          refine j_goto E 98 dX11_who_94 (by decide) ?_
          refine j_sub [1, 2, 3, 5] rfl ?_
          exact m_X11_who_b98 E K29 hK29 v0 v1 v2 v4 v3 ((1 : Int32) <<< (v4 &&& 31)) Z21 I22 L23 hZ hx k26 h
set_option maxRecDepth 100000 in
def f_X11_who (v0 : Nat) (v1 : Int32) (v2 : Int32) (Z : jZ) (I : jI) (L : jL) (Q : Int32 → jZ → jI → jL → Prop) : Prop := ((v1 < 0 → Q (-1 : Int32) Z I L) ∧ (¬ (v1 < 0) → (((999 : Int32) < v1 → Q (-1 : Int32) Z I L) ∧ (¬ ((999 : Int32) < v1) → (∀ b31 : Nat, jr Z v0 2 = some b31 → (f_X8_has b31 v2 Z I L (fun r37 I34 L35 => ((¬ r37 = 0 → (∃ m29 : Nat, f_X11_who_L29  Q m29 v0 v1 v2 (0 : Int32) (0 : Int32) Z I34 L35)) ∧ (r37 = 0 → Q (-1 : Int32) Z I34 L35)))))))))
set_option maxHeartbeats 4000000 in
set_option maxRecDepth 100000 in
theorem c_X11_who (l : Launch) (D : va_G) (cy : jC) (v0 : Nat) (v1 : Int32) (v2 : Int32) (Z : jZ) (I : jI) (L : jL) (Q : Int32 → jZ → jI → jL → Prop) (hZ : SH Z) (kv0 : jk Z v0 11) (h : f_X11_who v0 v1 v2 Z I L Q) : jCt l yX11_who w_X11_who { frames := 6, cells := 0, slots := 0, locals := 150 } D cy [.ref v0, .int v1, .int v2] Z I L (xrtI Z Q) := by
  refine jCt_of (cc := cX11_who) (maxL := 6) (ret := (some .int)) (by decide +kernel) rfl (Nat.le_of_ble_eq_true rfl) ?_
  intro G eD eY eL E
  subst eD; subst eY; subst eL
  have E : jE G cX11_who RX11 w_X11_who 6 (some .int) { frames := 6, cells := 0, slots := 0, locals := 150 } (xrtI Z Q) := E
  have hx : jext Z Z := jext_rfl
  show jJ G 6 0 [(0, .ref v0), (1, .int v1), (2, .int v2)] [] Z I L 0 0
  refine j_iload_n E dX11_who_0 1 rfl ?_
  refine j_if_lt E 22 dX11_who_1 (by decide) (fun c29 => ?_) (fun c29 => ?_)
  · have h := h.1 c29
    refine j_iconst E (v := -1) dX11_who_22 (by decide) ?_
    exact j_ireturn E ⟨hx, hZ, _, rfl, h⟩ (Nat.zero_le _) (Nat.zero_le _) dX11_who_23
  · have h := h.2 c29
    refine j_iload_n E dX11_who_4 1 rfl ?_
    refine j_sipush E (v := 999) dX11_who_5 (by decide) ?_
    refine j_icmp_gt E 22 dX11_who_8 (by decide) (fun c30 => ?_) (fun c30 => ?_)
    · have h := h.1 c30
      refine j_iconst E (v := -1) dX11_who_22 (by decide) ?_
      exact j_ireturn E ⟨hx, hZ, _, rfl, h⟩ (Nat.zero_le _) (Nat.zero_le _) dX11_who_23
    · have h := h.2 c30
      refine j_aload_n E dX11_who_11 0 rfl ?_
      obtain ⟨b31, eb31, kb31⟩ := sh_o hZ kv0 (j := 2) (k := 8) rfl
      have h := h b31 eb31
      refine j_getr E 11 2 rfl rfl (by decide) (by decide) (iw iT_11) rfl rfl (tw W_438) kv0 eb31 dX11_who_12 ?_
      refine j_iload_n E dX11_who_15 2 rfl ?_
      refine j_callV E [.int v2] [] (c_X8_has (gL G) (gD G) (gY G) b31 v2 Z I L _ hZ kb31 h) (gwV W_447 W_250 W_251 W_248 W_247) rfl ⟨rfl, fy_X8_has⟩ ⟨by decide, by decide⟩ (c := 8) rfl (by decide) kb31 rfl rfl (Nat.le_of_ble_eq_true rfl) ⟨Nat.zero_le _, Nat.zero_le _⟩ dX11_who_16 (fun v32 Z33 I34 L35 q36 => ?_)
      obtain ⟨rfl, r37, rfl, zr37, h⟩ := q36
      show jJ G 6 19 [(0, .ref v0), (1, .int v1), (2, .int v2)] [.int r37] Z I34 L35 0 0
      refine j_if_ne E 24 dX11_who_19 (by decide) (fun c38 => ?_) (fun c38 => ?_)
      · have h := h.1 c38
        refine j_iconst E (v := 0) dX11_who_24 (by decide) ?_
        refine j_istore_n E 3 [(3, .int (0 : Int32)), (0, .ref v0), (1, .int v1), (2, .int v2)] dX11_who_25 rfl (by decide) rfl ?_
        refine j_iconst E (v := 0) dX11_who_26 (by decide) ?_
        refine j_istore E 4 [(4, .int (0 : Int32)), (3, .int (0 : Int32)), (0, .ref v0), (1, .int v1), (2, .int v2)] dX11_who_27 (by decide) rfl ?_
        obtain ⟨n39, h⟩ := h
        refine j_sub [2, 3, 4, 1, 0] rfl ?_
        exact m_X11_who_L29 E  n39 v0 v1 v2 (0 : Int32) (0 : Int32) Z I34 L35 hZ hx kv0 h
      · have h := h.2 c38
        refine j_iconst E (v := -1) dX11_who_22 (by decide) ?_
        exact j_ireturn E ⟨hx, hZ, _, rfl, h⟩ (Nat.zero_le _) (Nat.zero_le _) dX11_who_23
set_option maxRecDepth 100000 in
def f_X11_next (v0 : Nat) (v1 : Int32) (v2 : Int32) (Z : jZ) (I : jI) (L : jL) (Q : Int32 → jZ → jI → jL → Prop) : Prop := (f_X11_find v0 v1 Z I L (fun r6 I3 L4 => ((r6 = none → Q (-1 : Int32) Z I3 L4) ∧ (∀ b7 : Nat, r6 = some b7 → ((v2 < (-1 : Int32) → Q (-1 : Int32) Z I3 L4) ∧ (¬ (v2 < (-1 : Int32)) → (((999 : Int32) ≤ v2 → Q (-1 : Int32) Z I3 L4) ∧ (¬ ((999 : Int32) ≤ v2) → (∀ b11 : Nat, jr Z v0 2 = some b11 → ((¬ (I3 b11 9) = 0 → (∀ b13 : Nat, jr Z b7 8 = some b13 → (f_X6_lay b13 (I3 b7 3) (I3 b7 4) (-1 : Int32) Z I3 L4 (fun I16 L17 => (∀ b19 : Nat, jr Z v0 9 = some b19 → (∀ b20 : Nat, jr Z b7 8 = some b20 → (f_X0_firstAbove b19 b20 v2 Z I16 L17 (fun r26 Z22 I23 L24 => ((¬ (lg_cmp r26 (9223372036854775807 : Int64)) = 0 → (f_X11_effortIn r26 Z22 I23 L24 (fun r35 I32 L33 => (f_X11_tellOne v0 (r35.toInt64) Z22 I32 L33 (fun I38 L39 => (f_X11_costIn r26 Z22 I38 L39 (fun r46 I43 L44 => Q r46 Z22 I43 L44))))))) ∧ ((lg_cmp r26 (9223372036854775807 : Int64)) = 0 → Q (-2 : Int32) Z22 I23 L24)))))))))) ∧ ((I3 b11 9) = 0 → Q (-1 : Int32) Z I3 L4)))))))))))
set_option maxHeartbeats 4000000 in
set_option maxRecDepth 100000 in
theorem c_X11_next (l : Launch) (D : va_G) (cy : jC) (v0 : Nat) (v1 : Int32) (v2 : Int32) (Z : jZ) (I : jI) (L : jL) (Q : Int32 → jZ → jI → jL → Prop) (hZ : SH Z) (kv0 : jk Z v0 11) (h : f_X11_next v0 v1 v2 Z I L Q) : jCt l yX11_next w_X11_next { frames := 6, cells := 0, slots := 0, locals := 150 } D cy [.ref v0, .int v1, .int v2] Z I L (xrtI Z Q) := by
  refine jCt_of (cc := cX11_next) (maxL := 6) (ret := (some .int)) (by decide +kernel) rfl (Nat.le_of_ble_eq_true rfl) ?_
  intro G eD eY eL E
  subst eD; subst eY; subst eL
  have E : jE G cX11_next RX11 w_X11_next 6 (some .int) { frames := 6, cells := 0, slots := 0, locals := 150 } (xrtI Z Q) := E
  have hx : jext Z Z := jext_rfl
  show jJ G 6 0 [(0, .ref v0), (1, .int v1), (2, .int v2)] [] Z I L 0 0
  refine j_aload_n E dX11_next_0 0 rfl ?_
  refine j_iload_n E dX11_next_1 1 rfl ?_
  refine j_callV E [.int v1] [] (c_X11_find (gL G) (gD G) (gY G) v0 v1 Z I L _ hZ kv0 h) (gwV W_421 W_422 W_423 W_28 W_420) rfl ⟨rfl, fy_X11_find⟩ ⟨by decide, by decide⟩ (c := 11) rfl (by decide) kv0 rfl rfl (Nat.le_of_ble_eq_true rfl) ⟨Nat.zero_le _, Nat.zero_le _⟩ dX11_next_2 (fun v1 Z2 I3 L4 q5 => ?_)
  obtain ⟨rfl, r6, rfl, zr6, h⟩ := q5
  show jJ G 6 5 [(0, .ref v0), (1, .int v1), (2, .int v2)] (va_rf r6 :: []) Z I3 L4 0 0
  rcases c8 : r6 with _ | b7
  · have h := h.1 c8
    refine j_rfN rfl ?_
    refine j_astore_nN E 3 [(3, .null), (0, .ref v0), (1, .int v1), (2, .int v2)] dX11_next_5 rfl (by decide) rfl ?_
    refine j_aload_nN E dX11_next_6 0 rfl ?_
    refine j_ifnullN E 32 dX11_next_7 (by decide) ?_
    refine j_iconst E (v := -1) dX11_next_32 (by decide) ?_
    exact j_ireturn E ⟨hx, hZ, _, rfl, h⟩ (Nat.zero_le _) (Nat.zero_le _) dX11_next_33
  · have h := h.2 b7 c8
    have kb7 := zr6 b7 c8
    refine j_rfS rfl ?_
    refine j_astore_n E 3 [(3, .ref b7), (0, .ref v0), (1, .int v1), (2, .int v2)] dX11_next_5 rfl (by decide) rfl ?_
    refine j_aload_n E dX11_next_6 0 rfl ?_
    refine j_ifnull E dX11_next_7 ?_
    refine j_iload_n E dX11_next_10 3 rfl ?_
    refine j_iconst E (v := -1) dX11_next_11 (by decide) ?_
    refine j_icmp_lt E 32 dX11_next_12 (by decide) (fun c9 => ?_) (fun c9 => ?_)
    · have h := h.1 c9
      refine j_iconst E (v := -1) dX11_next_32 (by decide) ?_
      exact j_ireturn E ⟨hx, hZ, _, rfl, h⟩ (Nat.zero_le _) (Nat.zero_le _) dX11_next_33
    · have h := h.2 c9
      refine j_iload_n E dX11_next_15 3 rfl ?_
      refine j_sipush E (v := 999) dX11_next_16 (by decide) ?_
      refine j_icmp_ge E 32 dX11_next_19 (by decide) (fun c10 => ?_) (fun c10 => ?_)
      · have h := h.1 c10
        refine j_iconst E (v := -1) dX11_next_32 (by decide) ?_
        exact j_ireturn E ⟨hx, hZ, _, rfl, h⟩ (Nat.zero_le _) (Nat.zero_le _) dX11_next_33
      · have h := h.2 c10
        refine j_aload_n E dX11_next_22 1 rfl ?_
        obtain ⟨b11, eb11, kb11⟩ := sh_o hZ kv0 (j := 2) (k := 8) rfl
        have h := h b11 eb11
        refine j_getr E 11 2 rfl rfl (by decide) (by decide) (iw iT_11) rfl rfl (tw W_438) kv0 eb11 dX11_next_23 ?_
        refine j_getiN E 8 9 rfl rfl (by decide) (by decide) (iw iT_8) rfl rfl (nw_8_9_X11_172) kb11 dX11_next_26 ?_
        refine j_if_ne E 34 dX11_next_29 (by decide) (fun c12 => ?_) (fun c12 => ?_)
        · have h := h.1 c12
          refine j_aload_n E dX11_next_34 0 rfl ?_
          obtain ⟨b13, eb13, kb13⟩ := sh_o hZ kb7 (j := 8) (k := 6) rfl
          have h := h b13 eb13
          refine j_getrN E 5 8 rfl rfl (by decide) (by decide) (iw iT_5) rfl rfl (nw_5_8_X11_263) kb7 eb13 dX11_next_35 ?_
          refine j_aload_n E dX11_next_38 0 rfl ?_
          refine j_getiN E 5 3 rfl rfl (by decide) (by decide) (iw iT_5) rfl rfl (nw_5_3_X11_213) kb7 dX11_next_39 ?_
          refine j_aload_n E dX11_next_42 0 rfl ?_
          refine j_getiN E 5 4 rfl rfl (by decide) (by decide) (iw iT_5) rfl rfl (nw_5_4_X11_196) kb7 dX11_next_43 ?_
          refine j_iconst E (v := -1) dX11_next_46 (by decide) ?_
          refine j_callV E [.int (I3 b7 3), .int (I3 b7 4), .int (-1 : Int32)] [] (c_X6_lay (gL G) (gD G) (gY G) b13 (I3 b7 3) (I3 b7 4) (-1 : Int32) Z I3 L4 _ hZ kb13 h) (gwV W_516 W_517 W_518 W_21 W_515) rfl ⟨rfl, fy_X6_lay⟩ ⟨by decide, by decide⟩ (c := 6) rfl (by decide) kb13 rfl rfl (Nat.le_of_ble_eq_true rfl) ⟨Nat.zero_le _, Nat.zero_le _⟩ dX11_next_47 (fun v14 Z15 I16 L17 q18 => ?_)
          obtain ⟨rfl, rfl, h⟩ := q18
          show jJ G 6 50 [(3, .ref b7), (0, .ref v0), (1, .int v1), (2, .int v2)] [] Z I16 L17 0 0
          refine j_aload_n E dX11_next_50 1 rfl ?_
          obtain ⟨b19, eb19, kb19⟩ := sh_o hZ kv0 (j := 9) (k := 0) rfl
          have h := h b19 eb19
          refine j_getr E 11 9 rfl rfl (by decide) (by decide) (iw iT_11) rfl rfl (tw W_528) kv0 eb19 dX11_next_51 ?_
          refine j_aload_n E dX11_next_54 0 rfl ?_
          obtain ⟨b20, eb20, kb20⟩ := sh_o hZ kb7 (j := 8) (k := 6) rfl
          have h := h b20 eb20
          refine j_getrN E 5 8 rfl rfl (by decide) (by decide) (iw iT_5) rfl rfl (nw_5_8_X11_263) kb7 eb20 dX11_next_55 ?_
          refine j_iload_n E dX11_next_58 3 rfl ?_
          refine j_callV E [.ref b20, .int v2] [] (c_X0_firstAbove (gL G) (gD G) (gY G) b19 b20 v2 Z I16 L17 _ hZ kb19 kb20 h) (gwV W_543 W_544 W_545 W_86 W_542) rfl ⟨rfl, fy_X0_firstAbove⟩ ⟨by decide, by decide⟩ (c := 0) rfl (by decide) kb19 rfl rfl (Nat.le_of_ble_eq_true rfl) ⟨Nat.zero_le _, Nat.zero_le _⟩ dX11_next_59 (fun v21 Z22 I23 L24 q25 => ?_)
          obtain ⟨yZ22, hZ22, r26, rfl, h⟩ := q25
          have hZ := hZ22
          have hx : jext Z Z22 := jext_trans hx yZ22
          have k27 := (yZ22 _ _ kv0).1
          have k28 := (yZ22 _ _ kb7).1
          show jJ G 6 62 [(3, .ref b7), (0, .ref v0), (1, .int v1), (2, .int v2)] [.long r26] Z22 I23 L24 0 0
          refine j_lstore E 4 [(4, .long r26), (3, .ref b7), (0, .ref v0), (1, .int v1), (2, .int v2)] dX11_next_62 (by decide) rfl ?_
          refine j_lload E dX11_next_64 0 rfl ?_
          refine j_ldc2 E (tw W_523) dX11_next_66 ?_
          refine j_lcmp E dX11_next_69 ?_
          refine j_if_ne E 76 dX11_next_70 (by decide) (fun c29 => ?_) (fun c29 => ?_)
          · have h := h.1 c29
            refine j_aload_n E dX11_next_76 2 rfl ?_
            refine j_lload E dX11_next_77 0 rfl ?_
            refine j_callS E [.long r26] [.ref v0] (c_X11_effortIn (gL G) (gD G) (gY G) r26 Z22 I23 L24 _ hZ  h) (gwS W_524 W_57 W_28 W_56) rfl fy_X11_effortIn ⟨by decide, by decide⟩ rfl rfl (Nat.le_of_ble_eq_true rfl) ⟨Nat.zero_le _, Nat.zero_le _⟩ dX11_next_79 (fun v30 Z31 I32 L33 q34 => ?_)
            obtain ⟨rfl, r35, rfl, h⟩ := q34
            show jJ G 6 82 [(4, .long r26), (3, .ref b7), (0, .ref v0), (1, .int v1), (2, .int v2)] [.int r35, .ref v0] Z22 I32 L33 0 0
            refine j_i2l E dX11_next_82 ?_
            refine j_callV E [.long (r35.toInt64)] [] (c_X11_tellOne (gL G) (gD G) (gY G) v0 (r35.toInt64) Z22 I32 L33 _ hZ k27 h) (gwV W_476 W_477 W_478 W_28 W_475) rfl ⟨rfl, fy_X11_tellOne⟩ ⟨by decide, by decide⟩ (c := 11) rfl (by decide) k27 rfl rfl (Nat.le_of_ble_eq_true rfl) ⟨Nat.zero_le _, Nat.zero_le _⟩ dX11_next_83 (fun v36 Z37 I38 L39 q40 => ?_)
            obtain ⟨rfl, rfl, h⟩ := q40
            show jJ G 6 86 [(4, .long r26), (3, .ref b7), (0, .ref v0), (1, .int v1), (2, .int v2)] [] Z22 I38 L39 0 0
            refine j_lload E dX11_next_86 0 rfl ?_
            refine j_callS E [.long r26] [] (c_X11_costIn (gL G) (gD G) (gY G) r26 Z22 I38 L39 _ hZ  h) (gwS W_513 W_55 W_28 W_54) rfl fy_X11_costIn ⟨by decide, by decide⟩ rfl rfl (Nat.le_of_ble_eq_true rfl) ⟨Nat.zero_le _, Nat.zero_le _⟩ dX11_next_88 (fun v41 Z42 I43 L44 q45 => ?_)
            obtain ⟨rfl, r46, rfl, h⟩ := q45
            show jJ G 6 91 [(4, .long r26), (3, .ref b7), (0, .ref v0), (1, .int v1), (2, .int v2)] [.int r46] Z22 I43 L44 0 0
            exact j_ireturn E ⟨hx, hZ, _, rfl, h⟩ (Nat.zero_le _) (Nat.zero_le _) dX11_next_91
          · have h := h.2 c29
            refine j_bipush E (v := -2) dX11_next_73 (by decide) ?_
            exact j_ireturn E ⟨hx, hZ, _, rfl, h⟩ (Nat.zero_le _) (Nat.zero_le _) dX11_next_75
        · have h := h.2 c12
          refine j_iconst E (v := -1) dX11_next_32 (by decide) ?_
          exact j_ireturn E ⟨hx, hZ, _, rfl, h⟩ (Nat.zero_le _) (Nat.zero_le _) dX11_next_33
set_option maxRecDepth 100000 in
def f_X11_bears_L25  (Q : Int32 → jZ → jI → jL → Prop) : Nat → Nat → Nat → Int32 → jZ → jI → jL → Prop
  | 0 => fun _ _ _ _ _ _ => False
  | n + 1 => fun v0 v2 v3 Z I L => ((v3 < 0 → Q (-2 : Int32) Z I L) ∧ (¬ (v3 < 0) → (∀ b2 : Nat, jr Z v2 8 = some b2 → (f_X6_lay b2 v3 (I v2 4) (-1 : Int32) Z I L (fun I5 L6 => (∀ b8 : Nat, jr Z v2 8 = some b8 → (f_X6_cheapest b8 Z I5 L6 (fun r14 Z10 I11 L12 => (((lg_cmp r14 (9223372036854775807 : Int64)) = 0 → (∀ x18 : Int32, x18 = v3 + (-1) → (f_X11_bears_L25 Q n) v0 v2 x18 Z10 I11 L12)) ∧ (¬ ((lg_cmp r14 (9223372036854775807 : Int64)) = 0) → (f_X11_costIn r14 Z10 I11 L12 (fun r24 I21 L22 => (f_X11_tellOne v0 (r24.toInt64) Z10 I21 L22 (fun I27 L28 => Q v3 Z10 I27 L28))))))))))))))
set_option maxHeartbeats 4000000 in
set_option maxRecDepth 100000 in
theorem m_X11_bears_L25 {G : jG} {Z0 : jZ} {Q : Int32 → jZ → jI → jL → Prop} (E : jE G cX11_bears RX11 w_X11_bears 6 (some .int) { frames := 6, cells := 0, slots := 0, locals := 150 } (xrtI Z0 Q))  : ∀ (n : Nat) (v0 : Nat) (v2 : Nat) (v3 : Int32) (Z : jZ) (I : jI) (L : jL), SH Z → jext Z0 Z → jk Z v0 11 → jk Z v2 5 → f_X11_bears_L25  Q n v0 v2 v3 Z I L → jJ G 6 25 [(0, .ref v0), (2, .ref v2), (3, .int v3)] [] Z I L 0 0 := by
  intro n
  induction n with
  | zero => intro v0 v2 v3 Z I L _ _ _ _ h; exact h.elim
  | succ n ih =>
    intro v0 v2 v3 Z I L hZ hx kv0 kv2 h
    have h : ((v3 < 0 → Q (-2 : Int32) Z I L) ∧ (¬ (v3 < 0) → (∀ b2 : Nat, jr Z v2 8 = some b2 → (f_X6_lay b2 v3 (I v2 4) (-1 : Int32) Z I L (fun I5 L6 => (∀ b8 : Nat, jr Z v2 8 = some b8 → (f_X6_cheapest b8 Z I5 L6 (fun r14 Z10 I11 L12 => (((lg_cmp r14 (9223372036854775807 : Int64)) = 0 → (∀ x18 : Int32, x18 = v3 + (-1) → (f_X11_bears_L25 Q n) v0 v2 x18 Z10 I11 L12)) ∧ (¬ ((lg_cmp r14 (9223372036854775807 : Int64)) = 0) → (f_X11_costIn r14 Z10 I11 L12 (fun r24 I21 L22 => (f_X11_tellOne v0 (r24.toInt64) Z10 I21 L22 (fun I27 L28 => Q v3 Z10 I27 L28)))))))))))))) := h
    obtain ⟨K25, eK25⟩ : ∃ K : Nat → Nat → Int32 → jZ → jI → jL → Prop, K = f_X11_bears_L25  Q n := ⟨_, rfl⟩
    have hK25 := ih
    clear eK25 K25
    generalize f_X11_bears_L25  Q n = K25 at hK25 h
    refine j_iload_n E dX11_bears_25 2 rfl ?_
    refine j_if_lt E 78 dX11_bears_26 (by decide) (fun c1 => ?_) (fun c1 => ?_)
    · have h := h.1 c1
      refine j_bipush E (v := -2) dX11_bears_78 (by decide) ?_
      exact j_ireturn E ⟨hx, hZ, _, rfl, h⟩ (Nat.zero_le _) (Nat.zero_le _) dX11_bears_80
    · have h := h.2 c1
      refine j_aload_n E dX11_bears_29 1 rfl ?_
      obtain ⟨b2, eb2, kb2⟩ := sh_o hZ kv2 (j := 8) (k := 6) rfl
      have h := h b2 eb2
      refine j_getrN E 5 8 rfl rfl (by decide) (by decide) (iw iT_5) rfl rfl (nw_5_8_X11_263) kv2 eb2 dX11_bears_30 ?_
      refine j_iload_n E dX11_bears_33 2 rfl ?_
      refine j_aload_n E dX11_bears_34 1 rfl ?_
      refine j_getiN E 5 4 rfl rfl (by decide) (by decide) (iw iT_5) rfl rfl (nw_5_4_X11_196) kv2 dX11_bears_35 ?_
      refine j_iconst E (v := -1) dX11_bears_38 (by decide) ?_
      refine j_callV E [.int v3, .int (I v2 4), .int (-1 : Int32)] [] (c_X6_lay (gL G) (gD G) (gY G) b2 v3 (I v2 4) (-1 : Int32) Z I L _ hZ kb2 h) (gwV W_516 W_517 W_518 W_21 W_515) rfl ⟨rfl, fy_X6_lay⟩ ⟨by decide, by decide⟩ (c := 6) rfl (by decide) kb2 rfl rfl (Nat.le_of_ble_eq_true rfl) ⟨Nat.zero_le _, Nat.zero_le _⟩ dX11_bears_39 (fun v3 Z4 I5 L6 q7 => ?_)
      obtain ⟨rfl, rfl, h⟩ := q7
      show jJ G 6 42 [(0, .ref v0), (2, .ref v2), (3, .int v3)] [] Z I5 L6 0 0
      refine j_aload_n E dX11_bears_42 1 rfl ?_
      obtain ⟨b8, eb8, kb8⟩ := sh_o hZ kv2 (j := 8) (k := 6) rfl
      have h := h b8 eb8
      refine j_getrN E 5 8 rfl rfl (by decide) (by decide) (iw iT_5) rfl rfl (nw_5_8_X11_263) kv2 eb8 dX11_bears_43 ?_
      refine j_callV E [] [] (c_X6_cheapest (gL G) (gD G) (gY G) b8 Z I5 L6 _ hZ kb8 h) (gwV W_520 W_521 W_522 W_21 W_519) rfl ⟨rfl, fy_X6_cheapest⟩ ⟨by decide, by decide⟩ (c := 6) rfl (by decide) kb8 rfl rfl (Nat.le_of_ble_eq_true rfl) ⟨Nat.zero_le _, Nat.zero_le _⟩ dX11_bears_46 (fun v9 Z10 I11 L12 q13 => ?_)
      obtain ⟨yZ10, hZ10, r14, rfl, h⟩ := q13
      have hZ := hZ10
      have hx : jext Z0 Z10 := jext_trans hx yZ10
      have k15 := (yZ10 _ _ kv0).1
      have k16 := (yZ10 _ _ kv2).1
      show jJ G 6 49 [(0, .ref v0), (2, .ref v2), (3, .int v3)] [.long r14] Z10 I11 L12 0 0
      refine j_lstore E 4 [(4, .long r14), (0, .ref v0), (2, .ref v2), (3, .int v3)] dX11_bears_49 (by decide) rfl ?_
      refine j_lload E dX11_bears_51 0 rfl ?_
      refine j_ldc2 E (tw W_523) dX11_bears_53 ?_
      refine j_lcmp E dX11_bears_56 ?_
      refine j_if_eq E 72 dX11_bears_57 (by decide) (fun c17 => ?_) (fun c17 => ?_)
      · have h := h.1 c17
        obtain ⟨x18, ex18⟩ : ∃ y : Int32, y = v3 + (-1) := ⟨_, rfl⟩
        have h := h x18 ex18
        refine j_iinc E x18 [(3, .int x18), (4, .long r14), (0, .ref v0), (2, .ref v2)] dX11_bears_72 3 rfl (by rw [ex18]; rfl) (by decide) rfl ?_
        refine j_goto E 25 dX11_bears_75 (by decide) ?_
        refine j_sub [2, 3, 0] rfl ?_
        exact hK25 v0 v2 x18 Z10 I11 L12 hZ hx k15 k16 h
      · have h := h.2 c17
        refine j_aload_n E dX11_bears_60 1 rfl ?_
        refine j_lload E dX11_bears_61 0 rfl ?_
        refine j_callS E [.long r14] [.ref v0] (c_X11_costIn (gL G) (gD G) (gY G) r14 Z10 I11 L12 _ hZ  h) (gwS W_513 W_55 W_28 W_54) rfl fy_X11_costIn ⟨by decide, by decide⟩ rfl rfl (Nat.le_of_ble_eq_true rfl) ⟨Nat.zero_le _, Nat.zero_le _⟩ dX11_bears_63 (fun v19 Z20 I21 L22 q23 => ?_)
        obtain ⟨rfl, r24, rfl, h⟩ := q23
        show jJ G 6 66 [(4, .long r14), (0, .ref v0), (2, .ref v2), (3, .int v3)] [.int r24, .ref v0] Z10 I21 L22 0 0
        refine j_i2l E dX11_bears_66 ?_
        refine j_callV E [.long (r24.toInt64)] [] (c_X11_tellOne (gL G) (gD G) (gY G) v0 (r24.toInt64) Z10 I21 L22 _ hZ k15 h) (gwV W_476 W_477 W_478 W_28 W_475) rfl ⟨rfl, fy_X11_tellOne⟩ ⟨by decide, by decide⟩ (c := 11) rfl (by decide) k15 rfl rfl (Nat.le_of_ble_eq_true rfl) ⟨Nat.zero_le _, Nat.zero_le _⟩ dX11_bears_67 (fun v25 Z26 I27 L28 q29 => ?_)
        obtain ⟨rfl, rfl, h⟩ := q29
        show jJ G 6 70 [(4, .long r14), (0, .ref v0), (2, .ref v2), (3, .int v3)] [] Z10 I27 L28 0 0
        refine j_iload_n E dX11_bears_70 3 rfl ?_
        exact j_ireturn E ⟨hx, hZ, _, rfl, h⟩ (Nat.zero_le _) (Nat.zero_le _) dX11_bears_71
set_option maxRecDepth 100000 in
def f_X11_bears (v0 : Nat) (v1 : Int32) (Z : jZ) (I : jI) (L : jL) (Q : Int32 → jZ → jI → jL → Prop) : Prop := (f_X11_find v0 v1 Z I L (fun r35 I32 L33 => ((r35 = none → Q (-1 : Int32) Z I32 L33) ∧ (∀ b36 : Nat, r35 = some b36 → (∀ b38 : Nat, jr Z v0 2 = some b38 → ((¬ (I32 b38 9) = 0 → (∃ m25 : Nat, f_X11_bears_L25  Q m25 v0 b36 (50 : Int32) Z I32 L33)) ∧ ((I32 b38 9) = 0 → Q (-1 : Int32) Z I32 L33)))))))
set_option maxHeartbeats 4000000 in
set_option maxRecDepth 100000 in
theorem c_X11_bears (l : Launch) (D : va_G) (cy : jC) (v0 : Nat) (v1 : Int32) (Z : jZ) (I : jI) (L : jL) (Q : Int32 → jZ → jI → jL → Prop) (hZ : SH Z) (kv0 : jk Z v0 11) (h : f_X11_bears v0 v1 Z I L Q) : jCt l yX11_bears w_X11_bears { frames := 6, cells := 0, slots := 0, locals := 150 } D cy [.ref v0, .int v1] Z I L (xrtI Z Q) := by
  refine jCt_of (cc := cX11_bears) (maxL := 6) (ret := (some .int)) (by decide +kernel) rfl (Nat.le_of_ble_eq_true rfl) ?_
  intro G eD eY eL E
  subst eD; subst eY; subst eL
  have E : jE G cX11_bears RX11 w_X11_bears 6 (some .int) { frames := 6, cells := 0, slots := 0, locals := 150 } (xrtI Z Q) := E
  have hx : jext Z Z := jext_rfl
  show jJ G 6 0 [(0, .ref v0), (1, .int v1)] [] Z I L 0 0
  refine j_aload_n E dX11_bears_0 0 rfl ?_
  refine j_iload_n E dX11_bears_1 1 rfl ?_
  refine j_callV E [.int v1] [] (c_X11_find (gL G) (gD G) (gY G) v0 v1 Z I L _ hZ kv0 h) (gwV W_421 W_422 W_423 W_28 W_420) rfl ⟨rfl, fy_X11_find⟩ ⟨by decide, by decide⟩ (c := 11) rfl (by decide) kv0 rfl rfl (Nat.le_of_ble_eq_true rfl) ⟨Nat.zero_le _, Nat.zero_le _⟩ dX11_bears_2 (fun v30 Z31 I32 L33 q34 => ?_)
  obtain ⟨rfl, r35, rfl, zr35, h⟩ := q34
  show jJ G 6 5 [(0, .ref v0), (1, .int v1)] (va_rf r35 :: []) Z I32 L33 0 0
  rcases c37 : r35 with _ | b36
  · have h := h.1 c37
    refine j_rfN rfl ?_
    refine j_astore_nN E 2 [(2, .null), (0, .ref v0), (1, .int v1)] dX11_bears_5 rfl (by decide) rfl ?_
    refine j_aload_nN E dX11_bears_6 0 rfl ?_
    refine j_ifnullN E 20 dX11_bears_7 (by decide) ?_
    refine j_iconst E (v := -1) dX11_bears_20 (by decide) ?_
    exact j_ireturn E ⟨hx, hZ, _, rfl, h⟩ (Nat.zero_le _) (Nat.zero_le _) dX11_bears_21
  · have h := h.2 b36 c37
    have kb36 := zr35 b36 c37
    refine j_rfS rfl ?_
    refine j_astore_n E 2 [(2, .ref b36), (0, .ref v0), (1, .int v1)] dX11_bears_5 rfl (by decide) rfl ?_
    refine j_aload_n E dX11_bears_6 0 rfl ?_
    refine j_ifnull E dX11_bears_7 ?_
    refine j_aload_n E dX11_bears_10 1 rfl ?_
    obtain ⟨b38, eb38, kb38⟩ := sh_o hZ kv0 (j := 2) (k := 8) rfl
    have h := h b38 eb38
    refine j_getr E 11 2 rfl rfl (by decide) (by decide) (iw iT_11) rfl rfl (tw W_438) kv0 eb38 dX11_bears_11 ?_
    refine j_getiN E 8 9 rfl rfl (by decide) (by decide) (iw iT_8) rfl rfl (nw_8_9_X11_172) kb38 dX11_bears_14 ?_
    refine j_if_ne E 22 dX11_bears_17 (by decide) (fun c39 => ?_) (fun c39 => ?_)
    · have h := h.1 c39
      refine j_bipush E (v := 50) dX11_bears_22 (by decide) ?_
      refine j_istore_n E 3 [(3, .int (50 : Int32)), (2, .ref b36), (0, .ref v0), (1, .int v1)] dX11_bears_24 rfl (by decide) rfl ?_
      obtain ⟨n40, h⟩ := h
      refine j_sub [2, 1, 0] rfl ?_
      exact m_X11_bears_L25 E  n40 v0 b36 (50 : Int32) Z I32 L33 hZ hx kv0 kb36 h
    · have h := h.2 c39
      refine j_iconst E (v := -1) dX11_bears_20 (by decide) ?_
      exact j_ireturn E ⟨hx, hZ, _, rfl, h⟩ (Nat.zero_le _) (Nat.zero_le _) dX11_bears_21
