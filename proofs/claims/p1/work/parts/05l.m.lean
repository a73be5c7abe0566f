set_option maxRecDepth 100000 in
def f_X12_feast_b73 (K38 : Nat → Int32 → Int32 → Int32 → Int32 → jZ → jI → jL → Prop) (Q : Int32 → jZ → jI → jL → Prop) (v0 : Nat) (v2 : Int32) (v3 : Int32) (v4 : Int32) (v5 : Int32) (Z : jZ) (I : jI) (L : jL) : Prop := (∀ x1 : Int32, x1 = v5 + 1 → K38 v0 v2 v3 v4 x1 Z I L)
set_option maxHeartbeats 4000000 in
set_option maxRecDepth 100000 in
theorem m_X12_feast_b73 {G : jG} {Z0 : jZ} {Q : Int32 → jZ → jI → jL → Prop} (E : jE G cX12_feast RX12 w_X12_feast 6 (some .int) { frames := 6, cells := 0, slots := 0, locals := 150 } (xrtI Z0 Q)) (K38 : Nat → Int32 → Int32 → Int32 → Int32 → jZ → jI → jL → Prop) (hK38 : ∀ (v0 : Nat) (v2 : Int32) (v3 : Int32) (v4 : Int32) (v5 : Int32) (Z : jZ) (I : jI) (L : jL), SH Z → jext Z0 Z → jk Z v0 12 → K38 v0 v2 v3 v4 v5 Z I L → jJ G 6 38 [(0, .ref v0), (2, .int v2), (3, .int v3), (4, .int v4), (5, .int v5)] [] Z I L 0 0) (v0 : Nat) (v2 : Int32) (v3 : Int32) (v4 : Int32) (v5 : Int32) (Z : jZ) (I : jI) (L : jL) (hZ : SH Z) (hx : jext Z0 Z) (kv0 : jk Z v0 12) (h : f_X12_feast_b73 K38 Q v0 v2 v3 v4 v5 Z I L) : jJ G 6 73 [(0, .ref v0), (2, .int v2), (3, .int v3), (4, .int v4), (5, .int v5)] [] Z I L 0 0 := by
  obtain ⟨x1, ex1⟩ : ∃ y : Int32, y = v5 + 1 := ⟨_, rfl⟩
  have h := h x1 ex1
  refine j_iinc E x1 [(5, .int x1), (0, .ref v0), (2, .int v2), (3, .int v3), (4, .int v4)] dX12_feast_73 4 rfl (by rw [ex1]; rfl) (by decide) rfl ?_
  refine j_goto E 38 dX12_feast_76 (by decide) ?_
  refine j_sub [1, 2, 3, 4, 0] rfl ?_
  exact hK38 v0 v2 v3 v4 x1 Z I L hZ hx kv0 h
set_option maxRecDepth 100000 in
def f_X12_feast_L38  (Q : Int32 → jZ → jI → jL → Prop) : Nat → Nat → Int32 → Int32 → Int32 → Int32 → jZ → jI → jL → Prop
  | 0 => fun _ _ _ _ _ _ _ _ => False
  | n + 1 => fun v0 v2 v3 v4 v5 Z I L => (((I v0 8) ≤ v5 → (∀ I3 : jI, I3 = jpI I v0 21 (0 : Int32) → (f_X12_tell v0 (v3.toInt64) Z I3 L (fun I6 L7 => (f_X12_tell v0 (v4.toInt64) Z I6 L7 (fun I11 L12 => (f_X12_tell v0 ((I11 v0 60).toInt64) Z I11 L12 (fun I16 L17 => Q v2 Z I16 L17)))))))) ∧ (¬ ((I v0 8) ≤ v5) → (∀ b19 : Nat, jr Z v0 58 = some b19 → (vp_in v5 6 ∧ ((v3 < (I b19 v5.toNatClampNeg) → (∀ b22 : Nat, jr Z v0 58 = some b22 → (vp_in v5 6 ∧ (∀ x24 : Int32, x24 = (I b22 v5.toNatClampNeg) → f_X12_feast_b73 (f_X12_feast_L38 Q n) Q v0 v2 x24 v5 v5 Z I L)))) ∧ (¬ (v3 < (I b19 v5.toNatClampNeg)) → f_X12_feast_b73 (f_X12_feast_L38 Q n) Q v0 v2 v3 v4 v5 Z I L))))))
set_option maxHeartbeats 4000000 in
set_option maxRecDepth 100000 in
theorem m_X12_feast_L38 {G : jG} {Z0 : jZ} {Q : Int32 → jZ → jI → jL → Prop} (E : jE G cX12_feast RX12 w_X12_feast 6 (some .int) { frames := 6, cells := 0, slots := 0, locals := 150 } (xrtI Z0 Q))  : ∀ (n : Nat) (v0 : Nat) (v2 : Int32) (v3 : Int32) (v4 : Int32) (v5 : Int32) (Z : jZ) (I : jI) (L : jL), SH Z → jext Z0 Z → jk Z v0 12 → f_X12_feast_L38  Q n v0 v2 v3 v4 v5 Z I L → jJ G 6 38 [(0, .ref v0), (2, .int v2), (3, .int v3), (4, .int v4), (5, .int v5)] [] Z I L 0 0 := by
  intro n
  induction n with
  | zero => intro v0 v2 v3 v4 v5 Z I L _ _ _ h; exact h.elim
  | succ n ih =>
    intro v0 v2 v3 v4 v5 Z I L hZ hx kv0 h
    have h : (((I v0 8) ≤ v5 → (∀ I3 : jI, I3 = jpI I v0 21 (0 : Int32) → (f_X12_tell v0 (v3.toInt64) Z I3 L (fun I6 L7 => (f_X12_tell v0 (v4.toInt64) Z I6 L7 (fun I11 L12 => (f_X12_tell v0 ((I11 v0 60).toInt64) Z I11 L12 (fun I16 L17 => Q v2 Z I16 L17)))))))) ∧ (¬ ((I v0 8) ≤ v5) → (∀ b19 : Nat, jr Z v0 58 = some b19 → (vp_in v5 6 ∧ ((v3 < (I b19 v5.toNatClampNeg) → (∀ b22 : Nat, jr Z v0 58 = some b22 → (vp_in v5 6 ∧ (∀ x24 : Int32, x24 = (I b22 v5.toNatClampNeg) → f_X12_feast_b73 (f_X12_feast_L38 Q n) Q v0 v2 x24 v5 v5 Z I L)))) ∧ (¬ (v3 < (I b19 v5.toNatClampNeg)) → f_X12_feast_b73 (f_X12_feast_L38 Q n) Q v0 v2 v3 v4 v5 Z I L)))))) := h
    obtain ⟨K38, eK38⟩ : ∃ K : Nat → Int32 → Int32 → Int32 → Int32 → jZ → jI → jL → Prop, K = f_X12_feast_L38  Q n := ⟨_, rfl⟩
    have hK38 := ih
    clear eK38 K38
    generalize f_X12_feast_L38  Q n = K38 at hK38 h
    refine j_iload E dX12_feast_38 4 rfl ?_
    refine j_aload_n E dX12_feast_40 0 rfl ?_
    refine j_geti E 12 8 rfl rfl (by decide) (by decide) (iw iT_12) rfl rfl (tw W_682) kv0 dX12_feast_41 ?_
    refine j_icmp_ge E 79 dX12_feast_44 (by decide) (fun c2 => ?_) (fun c2 => ?_)
    · have h := h.1 c2
      refine j_aload_n E dX12_feast_79 0 rfl ?_
      refine j_iconst E (v := 0) dX12_feast_80 (by decide) ?_
      refine j_puti E 12 21 rfl rfl (by decide) (by decide) (iw iT_12) tyX12_ok nmX12 rfl rfl (tw W_676) rfl rfl rfl kv0 dX12_feast_81 ?_
      refine j_nmI (fun I3 eI3 => ?_)
      have h := h I3 eI3
      refine j_aload_n E dX12_feast_84 0 rfl ?_
      refine j_iload_n E dX12_feast_85 2 rfl ?_
      refine j_i2l E dX12_feast_86 ?_
      refine j_callV E [.long (v3.toInt64)] [] (c_X12_tell (gL G) (gD G) (gY G) v0 (v3.toInt64) Z I3 L _ hZ kv0 h) (gwV W_784 W_785 W_786 W_679 W_783) rfl ⟨rfl, fy_X12_tell⟩ ⟨by decide, by decide⟩ (c := 12) rfl (by decide) kv0 rfl rfl (Nat.le_of_ble_eq_true rfl) ⟨Nat.zero_le _, Nat.zero_le _⟩ dX12_feast_87 (fun v4 Z5 I6 L7 q8 => ?_)
      obtain ⟨rfl, rfl, h⟩ := q8
      show jJ G 6 90 [(0, .ref v0), (2, .int v2), (3, .int v3), (4, .int v4), (5, .int v5)] [] Z I6 L7 0 0
      refine j_aload_n E dX12_feast_90 0 rfl ?_
      refine j_iload E dX12_feast_91 3 rfl ?_
      refine j_i2l E dX12_feast_93 ?_
      refine j_callV E [.long (v4.toInt64)] [] (c_X12_tell (gL G) (gD G) (gY G) v0 (v4.toInt64) Z I6 L7 _ hZ kv0 h) (gwV W_784 W_785 W_786 W_679 W_783) rfl ⟨rfl, fy_X12_tell⟩ ⟨by decide, by decide⟩ (c := 12) rfl (by decide) kv0 rfl rfl (Nat.le_of_ble_eq_true rfl) ⟨Nat.zero_le _, Nat.zero_le _⟩ dX12_feast_94 (fun v9 Z10 I11 L12 q13 => ?_)
      obtain ⟨rfl, rfl, h⟩ := q13
      show jJ G 6 97 [(0, .ref v0), (2, .int v2), (3, .int v3), (4, .int v4), (5, .int v5)] [] Z I11 L12 0 0
      refine j_aload_n E dX12_feast_97 0 rfl ?_
      refine j_aload_n E dX12_feast_98 0 rfl ?_
      refine j_geti E 12 60 rfl rfl (by decide) (by decide) (iw iT_12) rfl rfl (tw W_887) kv0 dX12_feast_99 ?_
      refine j_i2l E dX12_feast_102 ?_
      refine j_callV E [.long ((I11 v0 60).toInt64)] [] (c_X12_tell (gL G) (gD G) (gY G) v0 ((I11 v0 60).toInt64) Z I11 L12 _ hZ kv0 h) (gwV W_784 W_785 W_786 W_679 W_783) rfl ⟨rfl, fy_X12_tell⟩ ⟨by decide, by decide⟩ (c := 12) rfl (by decide) kv0 rfl rfl (Nat.le_of_ble_eq_true rfl) ⟨Nat.zero_le _, Nat.zero_le _⟩ dX12_feast_103 (fun v14 Z15 I16 L17 q18 => ?_)
      obtain ⟨rfl, rfl, h⟩ := q18
      show jJ G 6 106 [(0, .ref v0), (2, .int v2), (3, .int v3), (4, .int v4), (5, .int v5)] [] Z I16 L17 0 0
      refine j_iload_n E dX12_feast_106 1 rfl ?_
      exact j_ireturn E ⟨hx, hZ, _, rfl, h⟩ (Nat.zero_le _) (Nat.zero_le _) dX12_feast_107
    · have h := h.2 c2
      refine j_aload_n E dX12_feast_47 0 rfl ?_
      obtain ⟨b19, eb19, kb19, lb19⟩ := sh_f hZ kv0 (j := 58) (k := 14) (m := 6) rfl
      have h := h b19 eb19
      refine j_getr E 12 58 rfl rfl (by decide) (by decide) (iw iT_12) rfl rfl (tw W_893) kv0 eb19 dX12_feast_48 ?_
      refine j_iload E dX12_feast_51 4 rfl ?_
      obtain ⟨o20, h⟩ := h
      refine j_iald E kb19 (by rw [lb19]; exact o20) dX12_feast_53 ?_
      refine j_iload_n E dX12_feast_54 2 rfl ?_
      refine j_icmp_gt E 61 dX12_feast_55 (by decide) (fun c21 => ?_) (fun c21 => ?_)
      · have h := h.1 c21
        refine j_aload_n E dX12_feast_61 0 rfl ?_
        obtain ⟨b22, eb22, kb22, lb22⟩ := sh_f hZ kv0 (j := 58) (k := 14) (m := 6) rfl
        have h := h b22 eb22
        refine j_getr E 12 58 rfl rfl (by decide) (by decide) (iw iT_12) rfl rfl (tw W_893) kv0 eb22 dX12_feast_62 ?_
        refine j_iload E dX12_feast_65 4 rfl ?_
        obtain ⟨o23, h⟩ := h
        refine j_iald E kb22 (by rw [lb22]; exact o23) dX12_feast_67 ?_
        refine j_topi (fun x24 ex24 => ?_)
        have h := h x24 ex24
        refine j_istore_n E 3 [(3, .int x24), (0, .ref v0), (2, .int v2), (4, .int v4), (5, .int v5)] dX12_feast_68 rfl (by decide) rfl ?_
        refine j_iload E dX12_feast_69 4 rfl ?_
        refine j_istore E 4 [(4, .int v5), (3, .int x24), (0, .ref v0), (2, .int v2), (5, .int v5)] dX12_feast_71 (by decide) rfl ?_
        refine j_sub [2, 3, 1, 0, 4] rfl ?_
        exact m_X12_feast_b73 E K38 hK38 v0 v2 x24 v5 v5 Z I L hZ hx kv0 h
      · have h := h.2 c21
        refine j_goto E 73 dX12_feast_58 (by decide) ?_
        refine j_sub [0, 1, 2, 3, 4] rfl ?_
        exact m_X12_feast_b73 E K38 hK38 v0 v2 v3 v4 v5 Z I L hZ hx kv0 h
set_option maxRecDepth 100000 in
def f_X12_feast (v0 : Nat) (v1 : Int32) (Z : jZ) (I : jI) (L : jL) (Q : Int32 → jZ → jI → jL → Prop) : Prop := (∀ I25 : jI, I25 = jpI I v0 22 (0 : Int32) → (((I25 v0 0) = 0 → Q (-1 : Int32) Z I25 L) ∧ (¬ ((I25 v0 0) = 0) → (f_X12_in v1 (1 : Int32) (6 : Int32) Z I25 L (fun r32 I29 L30 => ((¬ r32 = 0 → (f_X12_runFeast v0 v1 Z I29 L30 (fun r39 Z35 I36 L37 => (∃ m38 : Nat, f_X12_feast_L38  Q m38 v0 r39 (0 : Int32) (-1 : Int32) (0 : Int32) Z35 I36 L37)))) ∧ (r32 = 0 → Q (-1 : Int32) Z I29 L30)))))))
set_option maxHeartbeats 4000000 in
set_option maxRecDepth 100000 in
theorem c_X12_feast (l : Launch) (D : va_G) (cy : jC) (v0 : Nat) (v1 : Int32) (Z : jZ) (I : jI) (L : jL) (Q : Int32 → jZ → jI → jL → Prop) (hZ : SH Z) (kv0 : jk Z v0 12) (h : f_X12_feast v0 v1 Z I L Q) : jCt l yX12_feast w_X12_feast { frames := 6, cells := 0, slots := 0, locals := 150 } D cy [.ref v0, .int v1] Z I L (xrtI Z Q) := by
  refine jCt_of (cc := cX12_feast) (maxL := 6) (ret := (some .int)) (by decide +kernel) rfl (Nat.le_of_ble_eq_true rfl) ?_
  intro G eD eY eL E
  subst eD; subst eY; subst eL
  have E : jE G cX12_feast RX12 w_X12_feast 6 (some .int) { frames := 6, cells := 0, slots := 0, locals := 150 } (xrtI Z Q) := E
  have hx : jext Z Z := jext_rfl
  show jJ G 6 0 [(0, .ref v0), (1, .int v1)] [] Z I L 0 0
  refine j_aload_n E dX12_feast_0 0 rfl ?_
  refine j_iconst E (v := 0) dX12_feast_1 (by decide) ?_
  refine j_puti E 12 22 rfl rfl (by decide) (by decide) (iw iT_12) tyX12_ok nmX12 rfl rfl (tw W_674) rfl rfl rfl kv0 dX12_feast_2 ?_
  refine j_nmI (fun I25 eI25 => ?_)
  have h := h I25 eI25
  refine j_aload_n E dX12_feast_5 0 rfl ?_
  refine j_geti E 12 0 rfl rfl (by decide) (by decide) (iw iT_12) rfl rfl (tw W_677) kv0 dX12_feast_6 ?_
  refine j_if_eq E 22 dX12_feast_9 (by decide) (fun c26 => ?_) (fun c26 => ?_)
  · have h := h.1 c26
    refine j_iconst E (v := -1) dX12_feast_22 (by decide) ?_
    exact j_ireturn E ⟨hx, hZ, _, rfl, h⟩ (Nat.zero_le _) (Nat.zero_le _) dX12_feast_23
  · have h := h.2 c26
    refine j_iload_n E dX12_feast_12 1 rfl ?_
    refine j_iconst E (v := 1) dX12_feast_13 (by decide) ?_
    refine j_bipush E (v := 6) dX12_feast_14 (by decide) ?_
    refine j_callS E [.int v1, .int (1 : Int32), .int (6 : Int32)] [] (c_X12_in (gL G) (gD G) (gY G) v1 (1 : Int32) (6 : Int32) Z I25 L _ hZ  h) (gwS W_680 W_681 W_679 W_678) rfl fy_X12_in ⟨by decide, by decide⟩ rfl rfl (Nat.le_of_ble_eq_true rfl) ⟨Nat.zero_le _, Nat.zero_le _⟩ dX12_feast_16 (fun v27 Z28 I29 L30 q31 => ?_)
    obtain ⟨rfl, r32, rfl, zr32, h⟩ := q31
    show jJ G 6 19 [(0, .ref v0), (1, .int v1)] [.int r32] Z I29 L30 0 0
    refine j_if_ne E 24 dX12_feast_19 (by decide) (fun c33 => ?_) (fun c33 => ?_)
    · have h := h.1 c33
      refine j_aload_n E dX12_feast_24 0 rfl ?_
      refine j_iload_n E dX12_feast_25 1 rfl ?_
      refine j_callV E [.int v1] [] (c_X12_runFeast (gL G) (gD G) (gY G) v0 v1 Z I29 L30 _ hZ kv0 h) (gwV W_896 W_897 W_898 W_679 W_895) rfl ⟨rfl, fy_X12_runFeast⟩ ⟨by decide, by decide⟩ (c := 12) rfl (by decide) kv0 rfl rfl (Nat.le_of_ble_eq_true rfl) ⟨Nat.zero_le _, Nat.zero_le _⟩ dX12_feast_26 (fun v34 Z35 I36 L37 q38 => ?_)
      obtain ⟨yZ35, hZ35, r39, rfl, h⟩ := q38
      have hZ := hZ35
      have hx : jext Z Z35 := jext_trans hx yZ35
      have k40 := (yZ35 _ _ kv0).1
      show jJ G 6 29 [(0, .ref v0), (1, .int v1)] [.int r39] Z35 I36 L37 0 0
      refine j_istore_n E 2 [(2, .int r39), (0, .ref v0), (1, .int v1)] dX12_feast_29 rfl (by decide) rfl ?_
      refine j_iconst E (v := 0) dX12_feast_30 (by decide) ?_
      refine j_istore_n E 3 [(3, .int (0 : Int32)), (2, .int r39), (0, .ref v0), (1, .int v1)] dX12_feast_31 rfl (by decide) rfl ?_
      refine j_iconst E (v := -1) dX12_feast_32 (by decide) ?_
      refine j_istore E 4 [(4, .int (-1 : Int32)), (3, .int (0 : Int32)), (2, .int r39), (0, .ref v0), (1, .int v1)] dX12_feast_33 (by decide) rfl ?_
      refine j_iconst E (v := 0) dX12_feast_35 (by decide) ?_
      refine j_istore E 5 [(5, .int (0 : Int32)), (4, .int (-1 : Int32)), (3, .int (0 : Int32)), (2, .int r39), (0, .ref v0), (1, .int v1)] dX12_feast_36 (by decide) rfl ?_
      obtain ⟨n41, h⟩ := h
      refine j_sub [4, 3, 2, 1, 0] rfl ?_
      exact m_X12_feast_L38 E  n41 v0 r39 (0 : Int32) (-1 : Int32) (0 : Int32) Z35 I36 L37 hZ hx k40 h
    · have h := h.2 c33
      refine j_iconst E (v := -1) dX12_feast_22 (by decide) ?_
      exact j_ireturn E ⟨hx, hZ, _, rfl, h⟩ (Nat.zero_le _) (Nat.zero_le _) dX12_feast_23
set_option maxRecDepth 100000 in
def f_X12_jam_b59 (K26 : Nat → Int32 → Int32 → jZ → jI → jL → Prop) (Q : Int32 → jZ → jI → jL → Prop) (v0 : Nat) (v1 : Int32) (v2 : Int32) (Z : jZ) (I : jI) (L : jL) : Prop := (∀ x1 : Int32, x1 = v2 + 1 → K26 v0 v1 x1 Z I L)
set_option maxHeartbeats 4000000 in
set_option maxRecDepth 100000 in
theorem m_X12_jam_b59 {G : jG} {Z0 : jZ} {Q : Int32 → jZ → jI → jL → Prop} (E : jE G cX12_jam RX12 w_X12_jam 3 (some .int) { frames := 6, cells := 0, slots := 0, locals := 150 } (xrtI Z0 Q)) (K26 : Nat → Int32 → Int32 → jZ → jI → jL → Prop) (hK26 : ∀ (v0 : Nat) (v1 : Int32) (v2 : Int32) (Z : jZ) (I : jI) (L : jL), SH Z → jext Z0 Z → jk Z v0 12 → K26 v0 v1 v2 Z I L → jJ G 3 26 [(0, .ref v0), (1, .int v1), (2, .int v2)] [] Z I L 0 0) (v0 : Nat) (v1 : Int32) (v2 : Int32) (Z : jZ) (I : jI) (L : jL) (hZ : SH Z) (hx : jext Z0 Z) (kv0 : jk Z v0 12) (h : f_X12_jam_b59 K26 Q v0 v1 v2 Z I L) : jJ G 3 59 [(0, .ref v0), (1, .int v1), (2, .int v2)] [] Z I L 0 0 := by
  obtain ⟨x1, ex1⟩ : ∃ y : Int32, y = v2 + 1 := ⟨_, rfl⟩
  have h := h x1 ex1
  refine j_iinc E x1 [(2, .int x1), (0, .ref v0), (1, .int v1)] dX12_jam_59 2 rfl (by rw [ex1]; rfl) (by decide) rfl ?_
  refine j_goto E 26 dX12_jam_62 (by decide) ?_
  refine j_sub [1, 2, 0] rfl ?_
  exact hK26 v0 v1 x1 Z I L hZ hx kv0 h
set_option maxRecDepth 100000 in
def f_X12_jam_b54 (K26 : Nat → Int32 → Int32 → jZ → jI → jL → Prop) (Q : Int32 → jZ → jI → jL → Prop) (v0 : Nat) (v1 : Int32) (v2 : Int32) (s0 : Int32) (s1 : Int32) (Z : jZ) (I : jI) (L : jL) : Prop := ((s0 ≤ s1 → f_X12_jam_b59 K26 Q v0 v1 v2 Z I L) ∧ (¬ (s0 ≤ s1) → f_X12_jam_b59 K26 Q v0 v2 v2 Z I L))
set_option maxHeartbeats 4000000 in
set_option maxRecDepth 100000 in
theorem m_X12_jam_b54 {G : jG} {Z0 : jZ} {Q : Int32 → jZ → jI → jL → Prop} (E : jE G cX12_jam RX12 w_X12_jam 3 (some .int) { frames := 6, cells := 0, slots := 0, locals := 150 } (xrtI Z0 Q)) (K26 : Nat → Int32 → Int32 → jZ → jI → jL → Prop) (hK26 : ∀ (v0 : Nat) (v1 : Int32) (v2 : Int32) (Z : jZ) (I : jI) (L : jL), SH Z → jext Z0 Z → jk Z v0 12 → K26 v0 v1 v2 Z I L → jJ G 3 26 [(0, .ref v0), (1, .int v1), (2, .int v2)] [] Z I L 0 0) (v0 : Nat) (v1 : Int32) (v2 : Int32) (s0 : Int32) (s1 : Int32) (Z : jZ) (I : jI) (L : jL) (hZ : SH Z) (hx : jext Z0 Z) (kv0 : jk Z v0 12) (h : f_X12_jam_b54 K26 Q v0 v1 v2 s0 s1 Z I L) : jJ G 3 54 [(0, .ref v0), (1, .int v1), (2, .int v2)] [.int s1, .int s0] Z I L 0 0 := by
  refine j_icmp_le E 59 dX12_jam_54 (by decide) (fun c2 => ?_) (fun c2 => ?_)
  · have h := h.1 c2
    refine j_sub [0, 1, 2] rfl ?_
    exact m_X12_jam_b59 E K26 hK26 v0 v1 v2 Z I L hZ hx kv0 h
  · have h := h.2 c2
    refine j_iload_n E dX12_jam_57 2 rfl ?_
    refine j_istore_n E 1 [(1, .int v2), (0, .ref v0), (2, .int v2)] dX12_jam_58 rfl (by decide) rfl ?_
    refine j_sub [1, 0, 2] rfl ?_
    exact m_X12_jam_b59 E K26 hK26 v0 v2 v2 Z I L hZ hx kv0 h
set_option maxRecDepth 100000 in
def f_X12_jam_L26  (Q : Int32 → jZ → jI → jL → Prop) : Nat → Nat → Int32 → Int32 → jZ → jI → jL → Prop
  | 0 => fun _ _ _ _ _ _ => False
  | n + 1 => fun v0 v1 v2 Z I L => (((I v0 0) ≤ v2 → ((0 ≤ v1 → (∀ I5 : jI, I5 = jpI I v0 21 (0 : Int32) → (∀ b6 : Nat, jr Z v0 59 = some b6 → (vp_in v1 24 ∧ (f_X12_tell v0 ((I5 b6 v1.toNatClampNeg).toInt64) Z I5 L (fun I10 L11 => Q v1 Z I10 L11)))))) ∧ (¬ (0 ≤ v1) → Q (-2 : Int32) Z I L))) ∧ (¬ ((I v0 0) ≤ v2) → (∀ b13 : Nat, jr Z v0 59 = some b13 → (vp_in v2 24 ∧ ((0 ≤ v1 → (∀ b16 : Nat, jr Z v0 59 = some b16 → (vp_in v1 24 ∧ f_X12_jam_b54 (f_X12_jam_L26 Q n) Q v0 v1 v2 (I b13 v2.toNatClampNeg) (I b16 v1.toNatClampNeg) Z I L))) ∧ (¬ (0 ≤ v1) → f_X12_jam_b54 (f_X12_jam_L26 Q n) Q v0 v1 v2 (I b13 v2.toNatClampNeg) (0 : Int32) Z I L))))))
set_option maxHeartbeats 4000000 in
set_option maxRecDepth 100000 in
theorem m_X12_jam_L26 {G : jG} {Z0 : jZ} {Q : Int32 → jZ → jI → jL → Prop} (E : jE G cX12_jam RX12 w_X12_jam 3 (some .int) { frames := 6, cells := 0, slots := 0, locals := 150 } (xrtI Z0 Q))  : ∀ (n : Nat) (v0 : Nat) (v1 : Int32) (v2 : Int32) (Z : jZ) (I : jI) (L : jL), SH Z → jext Z0 Z → jk Z v0 12 → f_X12_jam_L26  Q n v0 v1 v2 Z I L → jJ G 3 26 [(0, .ref v0), (1, .int v1), (2, .int v2)] [] Z I L 0 0 := by
  intro n
  induction n with
  | zero => intro v0 v1 v2 Z I L _ _ _ h; exact h.elim
  | succ n ih =>
    intro v0 v1 v2 Z I L hZ hx kv0 h
    have h : (((I v0 0) ≤ v2 → ((0 ≤ v1 → (∀ I5 : jI, I5 = jpI I v0 21 (0 : Int32) → (∀ b6 : Nat, jr Z v0 59 = some b6 → (vp_in v1 24 ∧ (f_X12_tell v0 ((I5 b6 v1.toNatClampNeg).toInt64) Z I5 L (fun I10 L11 => Q v1 Z I10 L11)))))) ∧ (¬ (0 ≤ v1) → Q (-2 : Int32) Z I L))) ∧ (¬ ((I v0 0) ≤ v2) → (∀ b13 : Nat, jr Z v0 59 = some b13 → (vp_in v2 24 ∧ ((0 ≤ v1 → (∀ b16 : Nat, jr Z v0 59 = some b16 → (vp_in v1 24 ∧ f_X12_jam_b54 (f_X12_jam_L26 Q n) Q v0 v1 v2 (I b13 v2.toNatClampNeg) (I b16 v1.toNatClampNeg) Z I L))) ∧ (¬ (0 ≤ v1) → f_X12_jam_b54 (f_X12_jam_L26 Q n) Q v0 v1 v2 (I b13 v2.toNatClampNeg) (0 : Int32) Z I L)))))) := h
    obtain ⟨K26, eK26⟩ : ∃ K : Nat → Int32 → Int32 → jZ → jI → jL → Prop, K = f_X12_jam_L26  Q n := ⟨_, rfl⟩
    have hK26 := ih
    clear eK26 K26
    generalize f_X12_jam_L26  Q n = K26 at hK26 h
    refine j_iload_n E dX12_jam_26 2 rfl ?_
    refine j_aload_n E dX12_jam_27 0 rfl ?_
    refine j_geti E 12 0 rfl rfl (by decide) (by decide) (iw iT_12) rfl rfl (tw W_677) kv0 dX12_jam_28 ?_
    refine j_icmp_ge E 65 dX12_jam_31 (by decide) (fun c3 => ?_) (fun c3 => ?_)
    · have h := h.1 c3
      refine j_iload_n E dX12_jam_65 1 rfl ?_
      refine j_if_ge E 72 dX12_jam_66 (by decide) (fun c4 => ?_) (fun c4 => ?_)
      · have h := h.1 c4
        refine j_aload_n E dX12_jam_72 0 rfl ?_
        refine j_iconst E (v := 0) dX12_jam_73 (by decide) ?_
        refine j_puti E 12 21 rfl rfl (by decide) (by decide) (iw iT_12) tyX12_ok nmX12 rfl rfl (tw W_676) rfl rfl rfl kv0 dX12_jam_74 ?_
        refine j_nmI (fun I5 eI5 => ?_)
        have h := h I5 eI5
        refine j_aload_n E dX12_jam_77 0 rfl ?_
        refine j_aload_n E dX12_jam_78 0 rfl ?_
        obtain ⟨b6, eb6, kb6, lb6⟩ := sh_f hZ kv0 (j := 59) (k := 14) (m := 24) rfl
        have h := h b6 eb6
        refine j_getr E 12 59 rfl rfl (by decide) (by decide) (iw iT_12) rfl rfl (tw W_894) kv0 eb6 dX12_jam_79 ?_
        refine j_iload_n E dX12_jam_82 1 rfl ?_
        obtain ⟨o7, h⟩ := h
        refine j_iald E kb6 (by rw [lb6]; exact o7) dX12_jam_83 ?_
        refine j_i2l E dX12_jam_84 ?_
        refine j_callV E [.long ((I5 b6 v1.toNatClampNeg).toInt64)] [] (c_X12_tell (gL G) (gD G) (gY G) v0 ((I5 b6 v1.toNatClampNeg).toInt64) Z I5 L _ hZ kv0 h) (gwV W_784 W_785 W_786 W_679 W_783) rfl ⟨rfl, fy_X12_tell⟩ ⟨by decide, by decide⟩ (c := 12) rfl (by decide) kv0 rfl rfl (Nat.le_of_ble_eq_true rfl) ⟨Nat.zero_le _, Nat.zero_le _⟩ dX12_jam_85 (fun v8 Z9 I10 L11 q12 => ?_)
        obtain ⟨rfl, rfl, h⟩ := q12
        show jJ G 3 88 [(0, .ref v0), (1, .int v1), (2, .int v2)] [] Z I10 L11 0 0
        refine j_iload_n E dX12_jam_88 1 rfl ?_
        exact j_ireturn E ⟨hx, hZ, _, rfl, h⟩ (Nat.zero_le _) (Nat.zero_le _) dX12_jam_89
      · have h := h.2 c4
        refine j_bipush E (v := -2) dX12_jam_69 (by decide) ?_
        exact j_ireturn E ⟨hx, hZ, _, rfl, h⟩ (Nat.zero_le _) (Nat.zero_le _) dX12_jam_71
    · have h := h.2 c3
      refine j_aload_n E dX12_jam_34 0 rfl ?_
      obtain ⟨b13, eb13, kb13, lb13⟩ := sh_f hZ kv0 (j := 59) (k := 14) (m := 24) rfl
      have h := h b13 eb13
      refine j_getr E 12 59 rfl rfl (by decide) (by decide) (iw iT_12) rfl rfl (tw W_894) kv0 eb13 dX12_jam_35 ?_
      refine j_iload_n E dX12_jam_38 2 rfl ?_
      obtain ⟨o14, h⟩ := h
      refine j_iald E kb13 (by rw [lb13]; exact o14) dX12_jam_39 ?_
      refine j_iload_n E dX12_jam_40 1 rfl ?_
      refine j_if_ge E 48 dX12_jam_41 (by decide) (fun c15 => ?_) (fun c15 => ?_)
      · have h := h.1 c15
        refine j_aload_n E dX12_jam_48 0 rfl ?_
        obtain ⟨b16, eb16, kb16, lb16⟩ := sh_f hZ kv0 (j := 59) (k := 14) (m := 24) rfl
        have h := h b16 eb16
        refine j_getr E 12 59 rfl rfl (by decide) (by decide) (iw iT_12) rfl rfl (tw W_894) kv0 eb16 dX12_jam_49 ?_
        refine j_iload_n E dX12_jam_52 1 rfl ?_
        obtain ⟨o17, h⟩ := h
        refine j_iald E kb16 (by rw [lb16]; exact o17) dX12_jam_53 ?_
        refine j_sub [0, 1, 2] rfl ?_
        exact m_X12_jam_b54 E K26 hK26 v0 v1 v2 (I b13 v2.toNatClampNeg) (I b16 v1.toNatClampNeg) Z I L hZ hx kv0 h
      · have h := h.2 c15
        refine j_iconst E (v := 0) dX12_jam_44 (by decide) ?_
        refine j_goto E 54 dX12_jam_45 (by decide) ?_
        refine j_sub [0, 1, 2] rfl ?_
        exact m_X12_jam_b54 E K26 hK26 v0 v1 v2 (I b13 v2.toNatClampNeg) (0 : Int32) Z I L hZ hx kv0 h
set_option maxRecDepth 100000 in
def f_X12_jam (v0 : Nat) (Z : jZ) (I : jI) (L : jL) (Q : Int32 → jZ → jI → jL → Prop) : Prop := (∀ I18 : jI, I18 = jpI I v0 22 (0 : Int32) → ((¬ (I18 v0 0) = 0 → (f_X12_runFeast v0 (1 : Int32) Z I18 L (fun r25 Z21 I22 L23 => (∃ m26 : Nat, f_X12_jam_L26  Q m26 v0 (-2 : Int32) (0 : Int32) Z21 I22 L23)))) ∧ ((I18 v0 0) = 0 → Q (-2 : Int32) Z I18 L)))
set_option maxHeartbeats 4000000 in
set_option maxRecDepth 100000 in
theorem c_X12_jam (l : Launch) (D : va_G) (cy : jC) (v0 : Nat) (Z : jZ) (I : jI) (L : jL) (Q : Int32 → jZ → jI → jL → Prop) (hZ : SH Z) (kv0 : jk Z v0 12) (h : f_X12_jam v0 Z I L Q) : jCt l yX12_jam w_X12_jam { frames := 6, cells := 0, slots := 0, locals := 150 } D cy [.ref v0] Z I L (xrtI Z Q) := by
  refine jCt_of (cc := cX12_jam) (maxL := 3) (ret := (some .int)) (by decide +kernel) rfl (Nat.le_of_ble_eq_true rfl) ?_
  intro G eD eY eL E
  subst eD; subst eY; subst eL
  have E : jE G cX12_jam RX12 w_X12_jam 3 (some .int) { frames := 6, cells := 0, slots := 0, locals := 150 } (xrtI Z Q) := E
  have hx : jext Z Z := jext_rfl
  show jJ G 3 0 [(0, .ref v0)] [] Z I L 0 0
  refine j_aload_n E dX12_jam_0 0 rfl ?_
  refine j_iconst E (v := 0) dX12_jam_1 (by decide) ?_
  refine j_puti E 12 22 rfl rfl (by decide) (by decide) (iw iT_12) tyX12_ok nmX12 rfl rfl (tw W_674) rfl rfl rfl kv0 dX12_jam_2 ?_
  refine j_nmI (fun I18 eI18 => ?_)
  have h := h I18 eI18
  refine j_aload_n E dX12_jam_5 0 rfl ?_
  refine j_geti E 12 0 rfl rfl (by decide) (by decide) (iw iT_12) rfl rfl (tw W_677) kv0 dX12_jam_6 ?_
  refine j_if_ne E 15 dX12_jam_9 (by decide) (fun c19 => ?_) (fun c19 => ?_)
  · have h := h.1 c19
    refine j_aload_n E dX12_jam_15 0 rfl ?_
    refine j_iconst E (v := 1) dX12_jam_16 (by decide) ?_
    refine j_callV E [.int (1 : Int32)] [] (c_X12_runFeast (gL G) (gD G) (gY G) v0 (1 : Int32) Z I18 L _ hZ kv0 h) (gwV W_896 W_897 W_898 W_679 W_895) rfl ⟨rfl, fy_X12_runFeast⟩ ⟨by decide, by decide⟩ (c := 12) rfl (by decide) kv0 rfl rfl (Nat.le_of_ble_eq_true rfl) ⟨Nat.zero_le _, Nat.zero_le _⟩ dX12_jam_17 (fun v20 Z21 I22 L23 q24 => ?_)
    obtain ⟨yZ21, hZ21, r25, rfl, h⟩ := q24
    have hZ := hZ21
    have hx : jext Z Z21 := jext_trans hx yZ21
    have k26 := (yZ21 _ _ kv0).1
    show jJ G 3 20 [(0, .ref v0)] [.int r25] Z21 I22 L23 0 0
    refine j_pop E dX12_jam_20 rfl ?_
    refine j_bipush E (v := -2) dX12_jam_21 (by decide) ?_
    refine j_istore_n E 1 [(1, .int (-2 : Int32)), (0, .ref v0)] dX12_jam_23 rfl (by decide) rfl ?_
    refine j_iconst E (v := 0) dX12_jam_24 (by decide) ?_
    refine j_istore_n E 2 [(2, .int (0 : Int32)), (1, .int (-2 : Int32)), (0, .ref v0)] dX12_jam_25 rfl (by decide) rfl ?_
    obtain ⟨n27, h⟩ := h
    refine j_sub [2, 1, 0] rfl ?_
    exact m_X12_jam_L26 E  n27 v0 (-2 : Int32) (0 : Int32) Z21 I22 L23 hZ hx k26 h
  · have h := h.2 c19
    refine j_bipush E (v := -2) dX12_jam_12 (by decide) ?_
    exact j_ireturn E ⟨hx, hZ, _, rfl, h⟩ (Nat.zero_le _) (Nat.zero_le _) dX12_jam_14
set_option maxRecDepth 100000 in
def f_X12_put (v0 : Nat) (v1 : Int32) (Z : jZ) (I : jI) (L : jL) (Q : jI → jL → Prop) : Prop := (∀ b1 : Nat, jr Z v0 62 = some b1 → (vp_in (I v0 66) 532 ∧ (∀ I3 : jI, I3 = jpI I b1 (I v0 66).toNatClampNeg v1 → (∀ I4 : jI, I4 = jpI I3 v0 66 ((I3 v0 66) + (1 : Int32)) → Q I4 L))))
set_option maxHeartbeats 4000000 in
set_option maxRecDepth 100000 in
theorem c_X12_put (l : Launch) (D : va_G) (cy : jC) (v0 : Nat) (v1 : Int32) (Z : jZ) (I : jI) (L : jL) (Q : jI → jL → Prop) (hZ : SH Z) (kv0 : jk Z v0 12) (h : f_X12_put v0 v1 Z I L Q) : jCt l yX12_put w_X12_put { frames := 0, cells := 0, slots := 0, locals := 0 } D cy [.ref v0, .int v1] Z I L (rtV Z Q) := by
  refine jCt_of (cc := cX12_put) (maxL := 2) (ret := none) (by decide +kernel) rfl (Nat.le_of_ble_eq_true rfl) ?_
  intro G eD eY eL E
  subst eD; subst eY; subst eL
  have E : jE G cX12_put RX12 w_X12_put 2 none { frames := 0, cells := 0, slots := 0, locals := 0 } (rtV Z Q) := E
  show jJ G 2 0 [(0, .ref v0), (1, .int v1)] [] Z I L 0 0
  refine j_aload_n E dX12_put_0 0 rfl ?_
  obtain ⟨b1, eb1, kb1, lb1⟩ := sh_f hZ kv0 (j := 62) (k := 14) (m := 532) rfl
  have h := h b1 eb1
  refine j_getr E 12 62 rfl rfl (by decide) (by decide) (iw iT_12) rfl rfl (tw W_899) kv0 eb1 dX12_put_1 ?_
  refine j_aload_n E dX12_put_4 0 rfl ?_
  refine j_geti E 12 66 rfl rfl (by decide) (by decide) (iw iT_12) rfl rfl (tw W_900) kv0 dX12_put_5 ?_
  refine j_iload_n E dX12_put_8 1 rfl ?_
  obtain ⟨o2, h⟩ := h
  refine j_iast E kb1 (by rw [lb1]; exact o2) dX12_put_9 ?_
  refine j_nmI (fun I3 eI3 => ?_)
  have h := h I3 eI3
  refine j_aload_n E dX12_put_10 0 rfl ?_
  refine j_dup E dX12_put_11 rfl ?_
  refine j_geti E 12 66 rfl rfl (by decide) (by decide) (iw iT_12) rfl rfl (tw W_900) kv0 dX12_put_12 ?_
  refine j_iconst E (v := 1) dX12_put_15 (by decide) ?_
  refine j_iadd E dX12_put_16 ?_
  refine j_puti E 12 66 rfl rfl (by decide) (by decide) (iw iT_12) tyX12_ok nmX12 rfl rfl (tw W_900) rfl rfl rfl kv0 dX12_put_17 ?_
  refine j_nmI (fun I4 eI4 => ?_)
  have h := h I4 eI4
  exact j_return E ⟨rfl, rfl, h⟩ (Nat.zero_le _) (Nat.zero_le _) dX12_put_20
set_option maxRecDepth 100000 in
def f_X12_take (v0 : Nat) (Z : jZ) (I : jI) (L : jL) (Q : Int32 → jI → jL → Prop) : Prop := (∀ I1 : jI, I1 = jpI I v0 66 ((I v0 66) + (1 : Int32)) → (∀ b2 : Nat, jr Z v0 62 = some b2 → (vp_in ((I1 v0 66) - (1 : Int32)) 532 ∧ Q (I1 b2 ((I1 v0 66) - (1 : Int32)).toNatClampNeg) I1 L)))
set_option maxHeartbeats 4000000 in
set_option maxRecDepth 100000 in
theorem c_X12_take (l : Launch) (D : va_G) (cy : jC) (v0 : Nat) (Z : jZ) (I : jI) (L : jL) (Q : Int32 → jI → jL → Prop) (hZ : SH Z) (kv0 : jk Z v0 12) (h : f_X12_take v0 Z I L Q) : jCt l yX12_take w_X12_take { frames := 0, cells := 0, slots := 0, locals := 0 } D cy [.ref v0] Z I L (rtI Z Q) := by
  refine jCt_of (cc := cX12_take) (maxL := 1) (ret := (some .int)) (by decide +kernel) rfl (Nat.le_of_ble_eq_true rfl) ?_
  intro G eD eY eL E
  subst eD; subst eY; subst eL
  have E : jE G cX12_take RX12 w_X12_take 1 (some .int) { frames := 0, cells := 0, slots := 0, locals := 0 } (rtI Z Q) := E
  show jJ G 1 0 [(0, .ref v0)] [] Z I L 0 0
  refine j_aload_n E dX12_take_0 0 rfl ?_
  refine j_dup E dX12_take_1 rfl ?_
  refine j_geti E 12 66 rfl rfl (by decide) (by decide) (iw iT_12) rfl rfl (tw W_900) kv0 dX12_take_2 ?_
  refine j_iconst E (v := 1) dX12_take_5 (by decide) ?_
  refine j_iadd E dX12_take_6 ?_
  refine j_puti E 12 66 rfl rfl (by decide) (by decide) (iw iT_12) tyX12_ok nmX12 rfl rfl (tw W_900) rfl rfl rfl kv0 dX12_take_7 ?_
  refine j_nmI (fun I1 eI1 => ?_)
  have h := h I1 eI1
  refine j_aload_n E dX12_take_10 0 rfl ?_
  obtain ⟨b2, eb2, kb2, lb2⟩ := sh_f hZ kv0 (j := 62) (k := 14) (m := 532) rfl
  have h := h b2 eb2
  refine j_getr E 12 62 rfl rfl (by decide) (by decide) (iw iT_12) rfl rfl (tw W_899) kv0 eb2 dX12_take_11 ?_
  refine j_aload_n E dX12_take_14 0 rfl ?_
  refine j_geti E 12 66 rfl rfl (by decide) (by decide) (iw iT_12) rfl rfl (tw W_900) kv0 dX12_take_15 ?_
  refine j_iconst E (v := 1) dX12_take_18 (by decide) ?_
  refine j_isub E dX12_take_19 ?_
  obtain ⟨o3, h⟩ := h
  refine j_iald E kb2 (by rw [lb2]; exact o3) dX12_take_20 ?_
  exact j_ireturn E ⟨rfl, _, rfl, h⟩ (Nat.zero_le _) (Nat.zero_le _) dX12_take_21
set_option maxRecDepth 100000 in
def f_X12_keep_L157  (Z : jZ) (Q : Int32 → jI → jL → Prop) : Nat → Nat → Int32 → jI → jL → Prop
  | 0 => fun _ _ _ _ => False
  | n + 1 => fun v0 v2 I L => (((8 : Int32) ≤ v2 → Q (1 : Int32) I L) ∧ (¬ ((8 : Int32) ≤ v2) → (∀ b2 : Nat, jr Z v0 17 = some b2 → (vp_in v2 8 ∧ (f_X12_put v0 (I b2 v2.toNatClampNeg) Z I L (fun I6 L7 => (∀ x9 : Int32, x9 = v2 + 1 → (f_X12_keep_L157 Z Q n) v0 x9 I6 L7)))))))
set_option maxHeartbeats 4000000 in
set_option maxRecDepth 100000 in
theorem m_X12_keep_L157 {G : jG} {Z : jZ} {Q : Int32 → jI → jL → Prop} (E : jE G cX12_keep RX12 w_X12_keep 3 (some .boolean) { frames := 1, cells := 0, slots := 0, locals := 22 } (rtZ Z Q)) (hZ : SH Z)  : ∀ (n : Nat) (v0 : Nat) (v2 : Int32) (I : jI) (L : jL), jk Z v0 12 → f_X12_keep_L157  Z Q n v0 v2 I L → jJ G 3 157 [(0, .ref v0), (2, .int v2)] [] Z I L 0 0 := by
  intro n
  induction n with
  | zero => intro v0 v2 I L _ h; exact h.elim
  | succ n ih =>
    intro v0 v2 I L kv0 h
    have h : (((8 : Int32) ≤ v2 → Q (1 : Int32) I L) ∧ (¬ ((8 : Int32) ≤ v2) → (∀ b2 : Nat, jr Z v0 17 = some b2 → (vp_in v2 8 ∧ (f_X12_put v0 (I b2 v2.toNatClampNeg) Z I L (fun I6 L7 => (∀ x9 : Int32, x9 = v2 + 1 → (f_X12_keep_L157 Z Q n) v0 x9 I6 L7))))))) := h
    obtain ⟨K157, eK157⟩ : ∃ K : Nat → Int32 → jI → jL → Prop, K = f_X12_keep_L157  Z Q n := ⟨_, rfl⟩
    have hK157 := ih
    clear eK157 K157
    generalize f_X12_keep_L157  Z Q n = K157 at hK157 h
    refine j_iload_n E dX12_keep_157 1 rfl ?_
    refine j_bipush E (v := 8) dX12_keep_158 (by decide) ?_
    refine j_icmp_ge E 179 dX12_keep_160 (by decide) (fun c1 => ?_) (fun c1 => ?_)
    · have h := h.1 c1
      refine j_iconst E (v := 1) dX12_keep_179 (by decide) ?_
      exact j_zreturn E (Or.inr rfl) ⟨rfl, _, rfl, (Or.inr rfl), h⟩ (Nat.zero_le _) (Nat.zero_le _) dX12_keep_180
    · have h := h.2 c1
      refine j_aload_n E dX12_keep_163 0 rfl ?_
      refine j_aload_n E dX12_keep_164 0 rfl ?_
      obtain ⟨b2, eb2, kb2, lb2⟩ := sh_f hZ kv0 (j := 17) (k := 14) (m := 8) rfl
      have h := h b2 eb2
      refine j_getr E 12 17 rfl rfl (by decide) (by decide) (iw iT_12) rfl rfl (tw W_721) kv0 eb2 dX12_keep_165 ?_
      refine j_iload_n E dX12_keep_168 1 rfl ?_
      obtain ⟨o3, h⟩ := h
      refine j_iald E kb2 (by rw [lb2]; exact o3) dX12_keep_169 ?_
      refine j_callV E [.int (I b2 v2.toNatClampNeg)] [] (c_X12_put (gL G) (gD G) (gY G) v0 (I b2 v2.toNatClampNeg) Z I L _ hZ kv0 h) (gwV W_902 W_903 W_904 W_679 W_901) rfl ⟨rfl, fy_X12_put⟩ ⟨by decide, by decide⟩ (c := 12) rfl (by decide) kv0 rfl rfl (Nat.le_of_ble_eq_true rfl) ⟨Nat.zero_le _, Nat.zero_le _⟩ dX12_keep_170 (fun v4 Z5 I6 L7 q8 => ?_)
      obtain ⟨rfl, rfl, h⟩ := q8
      show jJ G 3 173 [(0, .ref v0), (2, .int v2)] [] Z I6 L7 0 0
      obtain ⟨x9, ex9⟩ : ∃ y : Int32, y = v2 + 1 := ⟨_, rfl⟩
      have h := h x9 ex9
      refine j_iinc E x9 [(2, .int x9), (0, .ref v0)] dX12_keep_173 1 rfl (by rw [ex9]; rfl) (by decide) rfl ?_
      refine j_goto E 157 dX12_keep_176 (by decide) ?_
      refine j_sub [1, 0] rfl ?_
      exact hK157 v0 x9 I6 L7 kv0 h
set_option maxRecDepth 100000 in
def f_X12_keep_L113  (Z : jZ) (Q : Int32 → jI → jL → Prop) : Nat → Nat → Int32 → jI → jL → Prop
  | 0 => fun _ _ _ _ => False
  | n + 1 => fun v0 v2 I L => (((6 : Int32) ≤ v2 → (∃ m157 : Nat, f_X12_keep_L157  Z Q m157 v0 (0 : Int32) I L)) ∧ (¬ ((6 : Int32) ≤ v2) → (∀ b12 : Nat, jr Z v0 14 = some b12 → (vp_in v2 6 ∧ (f_X12_put v0 (I b12 v2.toNatClampNeg) Z I L (fun I16 L17 => (∀ b19 : Nat, jr Z v0 15 = some b19 → (vp_in v2 6 ∧ (f_X12_put v0 (I16 b19 v2.toNatClampNeg) Z I16 L17 (fun I23 L24 => (∀ b26 : Nat, jr Z v0 16 = some b26 → (vp_in v2 6 ∧ (f_X12_put v0 (I23 b26 v2.toNatClampNeg) Z I23 L24 (fun I30 L31 => (∀ x33 : Int32, x33 = v2 + 1 → (f_X12_keep_L113 Z Q n) v0 x33 I30 L31)))))))))))))))
set_option maxHeartbeats 4000000 in
set_option maxRecDepth 100000 in
theorem m_X12_keep_L113 {G : jG} {Z : jZ} {Q : Int32 → jI → jL → Prop} (E : jE G cX12_keep RX12 w_X12_keep 3 (some .boolean) { frames := 1, cells := 0, slots := 0, locals := 22 } (rtZ Z Q)) (hZ : SH Z)  : ∀ (n : Nat) (v0 : Nat) (v2 : Int32) (I : jI) (L : jL), jk Z v0 12 → f_X12_keep_L113  Z Q n v0 v2 I L → jJ G 3 113 [(0, .ref v0), (2, .int v2)] [] Z I L 0 0 := by
  intro n
  induction n with
  | zero => intro v0 v2 I L _ h; exact h.elim
  | succ n ih =>
    intro v0 v2 I L kv0 h
    have h : (((6 : Int32) ≤ v2 → (∃ m157 : Nat, f_X12_keep_L157  Z Q m157 v0 (0 : Int32) I L)) ∧ (¬ ((6 : Int32) ≤ v2) → (∀ b12 : Nat, jr Z v0 14 = some b12 → (vp_in v2 6 ∧ (f_X12_put v0 (I b12 v2.toNatClampNeg) Z I L (fun I16 L17 => (∀ b19 : Nat, jr Z v0 15 = some b19 → (vp_in v2 6 ∧ (f_X12_put v0 (I16 b19 v2.toNatClampNeg) Z I16 L17 (fun I23 L24 => (∀ b26 : Nat, jr Z v0 16 = some b26 → (vp_in v2 6 ∧ (f_X12_put v0 (I23 b26 v2.toNatClampNeg) Z I23 L24 (fun I30 L31 => (∀ x33 : Int32, x33 = v2 + 1 → (f_X12_keep_L113 Z Q n) v0 x33 I30 L31))))))))))))))) := h
    obtain ⟨K113, eK113⟩ : ∃ K : Nat → Int32 → jI → jL → Prop, K = f_X12_keep_L113  Z Q n := ⟨_, rfl⟩
    have hK113 := ih
    clear eK113 K113
    generalize f_X12_keep_L113  Z Q n = K113 at hK113 h
    refine j_iload_n E dX12_keep_113 1 rfl ?_
    refine j_bipush E (v := 6) dX12_keep_114 (by decide) ?_
    refine j_icmp_ge E 155 dX12_keep_116 (by decide) (fun c10 => ?_) (fun c10 => ?_)
    · have h := h.1 c10
      refine j_iconst E (v := 0) dX12_keep_155 (by decide) ?_
      refine j_istore_n E 2 [(2, .int (0 : Int32)), (0, .ref v0)] dX12_keep_156 rfl (by decide) rfl ?_
      obtain ⟨n11, h⟩ := h
      refine j_sub [1, 0] rfl ?_
      exact m_X12_keep_L157 E hZ  n11 v0 (0 : Int32) I L kv0 h
    · have h := h.2 c10
      refine j_aload_n E dX12_keep_119 0 rfl ?_
      refine j_aload_n E dX12_keep_120 0 rfl ?_
      obtain ⟨b12, eb12, kb12, lb12⟩ := sh_f hZ kv0 (j := 14) (k := 14) (m := 6) rfl
      have h := h b12 eb12
      refine j_getr E 12 14 rfl rfl (by decide) (by decide) (iw iT_12) rfl rfl (tw W_716) kv0 eb12 dX12_keep_121 ?_
      refine j_iload_n E dX12_keep_124 1 rfl ?_
      obtain ⟨o13, h⟩ := h
      refine j_iald E kb12 (by rw [lb12]; exact o13) dX12_keep_125 ?_
      refine j_callV E [.int (I b12 v2.toNatClampNeg)] [] (c_X12_put (gL G) (gD G) (gY G) v0 (I b12 v2.toNatClampNeg) Z I L _ hZ kv0 h) (gwV W_902 W_903 W_904 W_679 W_901) rfl ⟨rfl, fy_X12_put⟩ ⟨by decide, by decide⟩ (c := 12) rfl (by decide) kv0 rfl rfl (Nat.le_of_ble_eq_true rfl) ⟨Nat.zero_le _, Nat.zero_le _⟩ dX12_keep_126 (fun v14 Z15 I16 L17 q18 => ?_)
      obtain ⟨rfl, rfl, h⟩ := q18
      show jJ G 3 129 [(0, .ref v0), (2, .int v2)] [] Z I16 L17 0 0
      refine j_aload_n E dX12_keep_129 0 rfl ?_
      refine j_aload_n E dX12_keep_130 0 rfl ?_
      obtain ⟨b19, eb19, kb19, lb19⟩ := sh_f hZ kv0 (j := 15) (k := 14) (m := 6) rfl
      have h := h b19 eb19
      refine j_getr E 12 15 rfl rfl (by decide) (by decide) (iw iT_12) rfl rfl (tw W_717) kv0 eb19 dX12_keep_131 ?_
      refine j_iload_n E dX12_keep_134 1 rfl ?_
      obtain ⟨o20, h⟩ := h
      refine j_iald E kb19 (by rw [lb19]; exact o20) dX12_keep_135 ?_
      refine j_callV E [.int (I16 b19 v2.toNatClampNeg)] [] (c_X12_put (gL G) (gD G) (gY G) v0 (I16 b19 v2.toNatClampNeg) Z I16 L17 _ hZ kv0 h) (gwV W_902 W_903 W_904 W_679 W_901) rfl ⟨rfl, fy_X12_put⟩ ⟨by decide, by decide⟩ (c := 12) rfl (by decide) kv0 rfl rfl (Nat.le_of_ble_eq_true rfl) ⟨Nat.zero_le _, Nat.zero_le _⟩ dX12_keep_136 (fun v21 Z22 I23 L24 q25 => ?_)
      obtain ⟨rfl, rfl, h⟩ := q25
      show jJ G 3 139 [(0, .ref v0), (2, .int v2)] [] Z I23 L24 0 0
      refine j_aload_n E dX12_keep_139 0 rfl ?_
      refine j_aload_n E dX12_keep_140 0 rfl ?_
      obtain ⟨b26, eb26, kb26, lb26⟩ := sh_f hZ kv0 (j := 16) (k := 14) (m := 6) rfl
      have h := h b26 eb26
      refine j_getr E 12 16 rfl rfl (by decide) (by decide) (iw iT_12) rfl rfl (tw W_719) kv0 eb26 dX12_keep_141 ?_
      refine j_iload_n E dX12_keep_144 1 rfl ?_
      obtain ⟨o27, h⟩ := h
      refine j_iald E kb26 (by rw [lb26]; exact o27) dX12_keep_145 ?_
      refine j_callV E [.int (I23 b26 v2.toNatClampNeg)] [] (c_X12_put (gL G) (gD G) (gY G) v0 (I23 b26 v2.toNatClampNeg) Z I23 L24 _ hZ kv0 h) (gwV W_902 W_903 W_904 W_679 W_901) rfl ⟨rfl, fy_X12_put⟩ ⟨by decide, by decide⟩ (c := 12) rfl (by decide) kv0 rfl rfl (Nat.le_of_ble_eq_true rfl) ⟨Nat.zero_le _, Nat.zero_le _⟩ dX12_keep_146 (fun v28 Z29 I30 L31 q32 => ?_)
      obtain ⟨rfl, rfl, h⟩ := q32
      show jJ G 3 149 [(0, .ref v0), (2, .int v2)] [] Z I30 L31 0 0
      obtain ⟨x33, ex33⟩ : ∃ y : Int32, y = v2 + 1 := ⟨_, rfl⟩
      have h := h x33 ex33
      refine j_iinc E x33 [(2, .int x33), (0, .ref v0)] dX12_keep_149 1 rfl (by rw [ex33]; rfl) (by decide) rfl ?_
      refine j_goto E 113 dX12_keep_152 (by decide) ?_
      refine j_sub [1, 0] rfl ?_
      exact hK113 v0 x33 I30 L31 kv0 h
set_option maxRecDepth 100000 in
def f_X12_keep_L88  (Z : jZ) (Q : Int32 → jI → jL → Prop) : Nat → Nat → Int32 → jI → jL → Prop
  | 0 => fun _ _ _ _ => False
  | n + 1 => fun v0 v2 I L => (((192 : Int32) ≤ v2 → (∃ m113 : Nat, f_X12_keep_L113  Z Q m113 v0 (0 : Int32) I L)) ∧ (¬ ((192 : Int32) ≤ v2) → (∀ b36 : Nat, jr Z v0 5 = some b36 → (vp_in v2 192 ∧ (f_X12_put v0 (I b36 v2.toNatClampNeg) Z I L (fun I40 L41 => (∀ x43 : Int32, x43 = v2 + 1 → (f_X12_keep_L88 Z Q n) v0 x43 I40 L41)))))))
set_option maxHeartbeats 4000000 in
set_option maxRecDepth 100000 in
theorem m_X12_keep_L88 {G : jG} {Z : jZ} {Q : Int32 → jI → jL → Prop} (E : jE G cX12_keep RX12 w_X12_keep 3 (some .boolean) { frames := 1, cells := 0, slots := 0, locals := 22 } (rtZ Z Q)) (hZ : SH Z)  : ∀ (n : Nat) (v0 : Nat) (v2 : Int32) (I : jI) (L : jL), jk Z v0 12 → f_X12_keep_L88  Z Q n v0 v2 I L → jJ G 3 88 [(0, .ref v0), (2, .int v2)] [] Z I L 0 0 := by
  intro n
  induction n with
  | zero => intro v0 v2 I L _ h; exact h.elim
  | succ n ih =>
    intro v0 v2 I L kv0 h
    have h : (((192 : Int32) ≤ v2 → (∃ m113 : Nat, f_X12_keep_L113  Z Q m113 v0 (0 : Int32) I L)) ∧ (¬ ((192 : Int32) ≤ v2) → (∀ b36 : Nat, jr Z v0 5 = some b36 → (vp_in v2 192 ∧ (f_X12_put v0 (I b36 v2.toNatClampNeg) Z I L (fun I40 L41 => (∀ x43 : Int32, x43 = v2 + 1 → (f_X12_keep_L88 Z Q n) v0 x43 I40 L41))))))) := h
    obtain ⟨K88, eK88⟩ : ∃ K : Nat → Int32 → jI → jL → Prop, K = f_X12_keep_L88  Z Q n := ⟨_, rfl⟩
    have hK88 := ih
    clear eK88 K88
    generalize f_X12_keep_L88  Z Q n = K88 at hK88 h
    refine j_iload_n E dX12_keep_88 1 rfl ?_
    refine j_sipush E (v := 192) dX12_keep_89 (by decide) ?_
    refine j_icmp_ge E 111 dX12_keep_92 (by decide) (fun c34 => ?_) (fun c34 => ?_)
    · have h := h.1 c34
      refine j_iconst E (v := 0) dX12_keep_111 (by decide) ?_
      refine j_istore_n E 2 [(2, .int (0 : Int32)), (0, .ref v0)] dX12_keep_112 rfl (by decide) rfl ?_
      obtain ⟨n35, h⟩ := h
      refine j_sub [1, 0] rfl ?_
      exact m_X12_keep_L113 E hZ  n35 v0 (0 : Int32) I L kv0 h
    · have h := h.2 c34
      refine j_aload_n E dX12_keep_95 0 rfl ?_
      refine j_aload_n E dX12_keep_96 0 rfl ?_
      obtain ⟨b36, eb36, kb36, lb36⟩ := sh_f hZ kv0 (j := 5) (k := 14) (m := 192) rfl
      have h := h b36 eb36
      refine j_getr E 12 5 rfl rfl (by decide) (by decide) (iw iT_12) rfl rfl (tw W_683) kv0 eb36 dX12_keep_97 ?_
      refine j_iload_n E dX12_keep_100 1 rfl ?_
      obtain ⟨o37, h⟩ := h
      refine j_iald E kb36 (by rw [lb36]; exact o37) dX12_keep_101 ?_
      refine j_callV E [.int (I b36 v2.toNatClampNeg)] [] (c_X12_put (gL G) (gD G) (gY G) v0 (I b36 v2.toNatClampNeg) Z I L _ hZ kv0 h) (gwV W_902 W_903 W_904 W_679 W_901) rfl ⟨rfl, fy_X12_put⟩ ⟨by decide, by decide⟩ (c := 12) rfl (by decide) kv0 rfl rfl (Nat.le_of_ble_eq_true rfl) ⟨Nat.zero_le _, Nat.zero_le _⟩ dX12_keep_102 (fun v38 Z39 I40 L41 q42 => ?_)
      obtain ⟨rfl, rfl, h⟩ := q42
      show jJ G 3 105 [(0, .ref v0), (2, .int v2)] [] Z I40 L41 0 0
      obtain ⟨x43, ex43⟩ : ∃ y : Int32, y = v2 + 1 := ⟨_, rfl⟩
      have h := h x43 ex43
      refine j_iinc E x43 [(2, .int x43), (0, .ref v0)] dX12_keep_105 1 rfl (by rw [ex43]; rfl) (by decide) rfl ?_
      refine j_goto E 88 dX12_keep_108 (by decide) ?_
      refine j_sub [1, 0] rfl ?_
      exact hK88 v0 x43 I40 L41 kv0 h
set_option maxRecDepth 100000 in
def f_X12_keep_L54  (Z : jZ) (Q : Int32 → jI → jL → Prop) : Nat → Nat → Int32 → jI → jL → Prop
  | 0 => fun _ _ _ _ => False
  | n + 1 => fun v0 v2 I L => (((24 : Int32) ≤ v2 → (∃ m88 : Nat, f_X12_keep_L88  Z Q m88 v0 (0 : Int32) I L)) ∧ (¬ ((24 : Int32) ≤ v2) → (∀ b46 : Nat, jr Z v0 2 = some b46 → (vp_in v2 24 ∧ (f_X12_put v0 (I b46 v2.toNatClampNeg) Z I L (fun I50 L51 => (∀ b53 : Nat, jr Z v0 3 = some b53 → (vp_in v2 24 ∧ (f_X12_put v0 (I50 b53 v2.toNatClampNeg) Z I50 L51 (fun I57 L58 => (∀ x60 : Int32, x60 = v2 + 1 → (f_X12_keep_L54 Z Q n) v0 x60 I57 L58)))))))))))
set_option maxHeartbeats 4000000 in
set_option maxRecDepth 100000 in
theorem m_X12_keep_L54 {G : jG} {Z : jZ} {Q : Int32 → jI → jL → Prop} (E : jE G cX12_keep RX12 w_X12_keep 3 (some .boolean) { frames := 1, cells := 0, slots := 0, locals := 22 } (rtZ Z Q)) (hZ : SH Z)  : ∀ (n : Nat) (v0 : Nat) (v2 : Int32) (I : jI) (L : jL), jk Z v0 12 → f_X12_keep_L54  Z Q n v0 v2 I L → jJ G 3 54 [(0, .ref v0), (2, .int v2)] [] Z I L 0 0 := by
  intro n
  induction n with
  | zero => intro v0 v2 I L _ h; exact h.elim
  | succ n ih =>
    intro v0 v2 I L kv0 h
    have h : (((24 : Int32) ≤ v2 → (∃ m88 : Nat, f_X12_keep_L88  Z Q m88 v0 (0 : Int32) I L)) ∧ (¬ ((24 : Int32) ≤ v2) → (∀ b46 : Nat, jr Z v0 2 = some b46 → (vp_in v2 24 ∧ (f_X12_put v0 (I b46 v2.toNatClampNeg) Z I L (fun I50 L51 => (∀ b53 : Nat, jr Z v0 3 = some b53 → (vp_in v2 24 ∧ (f_X12_put v0 (I50 b53 v2.toNatClampNeg) Z I50 L51 (fun I57 L58 => (∀ x60 : Int32, x60 = v2 + 1 → (f_X12_keep_L54 Z Q n) v0 x60 I57 L58))))))))))) := h
    obtain ⟨K54, eK54⟩ : ∃ K : Nat → Int32 → jI → jL → Prop, K = f_X12_keep_L54  Z Q n := ⟨_, rfl⟩
    have hK54 := ih
    clear eK54 K54
    generalize f_X12_keep_L54  Z Q n = K54 at hK54 h
    refine j_iload_n E dX12_keep_54 1 rfl ?_
    refine j_bipush E (v := 24) dX12_keep_55 (by decide) ?_
    refine j_icmp_ge E 86 dX12_keep_57 (by decide) (fun c44 => ?_) (fun c44 => ?_)
    · have h := h.1 c44
      refine j_iconst E (v := 0) dX12_keep_86 (by decide) ?_
      refine j_istore_n E 2 [(2, .int (0 : Int32)), (0, .ref v0)] dX12_keep_87 rfl (by decide) rfl ?_
      obtain ⟨n45, h⟩ := h
      refine j_sub [1, 0] rfl ?_
      exact m_X12_keep_L88 E hZ  n45 v0 (0 : Int32) I L kv0 h
    · have h := h.2 c44
      refine j_aload_n E dX12_keep_60 0 rfl ?_
      refine j_aload_n E dX12_keep_61 0 rfl ?_
      obtain ⟨b46, eb46, kb46, lb46⟩ := sh_f hZ kv0 (j := 2) (k := 14) (m := 24) rfl
      have h := h b46 eb46
      refine j_getr E 12 2 rfl rfl (by decide) (by decide) (iw iT_12) rfl rfl (tw W_726) kv0 eb46 dX12_keep_62 ?_
      refine j_iload_n E dX12_keep_65 1 rfl ?_
      obtain ⟨o47, h⟩ := h
      refine j_iald E kb46 (by rw [lb46]; exact o47) dX12_keep_66 ?_
      refine j_callV E [.int (I b46 v2.toNatClampNeg)] [] (c_X12_put (gL G) (gD G) (gY G) v0 (I b46 v2.toNatClampNeg) Z I L _ hZ kv0 h) (gwV W_902 W_903 W_904 W_679 W_901) rfl ⟨rfl, fy_X12_put⟩ ⟨by decide, by decide⟩ (c := 12) rfl (by decide) kv0 rfl rfl (Nat.le_of_ble_eq_true rfl) ⟨Nat.zero_le _, Nat.zero_le _⟩ dX12_keep_67 (fun v48 Z49 I50 L51 q52 => ?_)
      obtain ⟨rfl, rfl, h⟩ := q52
      show jJ G 3 70 [(0, .ref v0), (2, .int v2)] [] Z I50 L51 0 0
      refine j_aload_n E dX12_keep_70 0 rfl ?_
      refine j_aload_n E dX12_keep_71 0 rfl ?_
      obtain ⟨b53, eb53, kb53, lb53⟩ := sh_f hZ kv0 (j := 3) (k := 14) (m := 24) rfl
      have h := h b53 eb53
      refine j_getr E 12 3 rfl rfl (by decide) (by decide) (iw iT_12) rfl rfl (tw W_727) kv0 eb53 dX12_keep_72 ?_
      refine j_iload_n E dX12_keep_75 1 rfl ?_
      obtain ⟨o54, h⟩ := h
      refine j_iald E kb53 (by rw [lb53]; exact o54) dX12_keep_76 ?_
      refine j_callV E [.int (I50 b53 v2.toNatClampNeg)] [] (c_X12_put (gL G) (gD G) (gY G) v0 (I50 b53 v2.toNatClampNeg) Z I50 L51 _ hZ kv0 h) (gwV W_902 W_903 W_904 W_679 W_901) rfl ⟨rfl, fy_X12_put⟩ ⟨by decide, by decide⟩ (c := 12) rfl (by decide) kv0 rfl rfl (Nat.le_of_ble_eq_true rfl) ⟨Nat.zero_le _, Nat.zero_le _⟩ dX12_keep_77 (fun v55 Z56 I57 L58 q59 => ?_)
      obtain ⟨rfl, rfl, h⟩ := q59
      show jJ G 3 80 [(0, .ref v0), (2, .int v2)] [] Z I57 L58 0 0
      obtain ⟨x60, ex60⟩ : ∃ y : Int32, y = v2 + 1 := ⟨_, rfl⟩
      have h := h x60 ex60
      refine j_iinc E x60 [(2, .int x60), (0, .ref v0)] dX12_keep_80 1 rfl (by rw [ex60]; rfl) (by decide) rfl ?_
      refine j_goto E 54 dX12_keep_83 (by decide) ?_
      refine j_sub [1, 0] rfl ?_
      exact hK54 v0 x60 I57 L58 kv0 h
set_option maxRecDepth 100000 in
def f_X12_keep (v0 : Nat) (v1 : Int32) (Z : jZ) (I : jI) (L : jL) (Q : Int32 → jI → jL → Prop) : Prop := (∀ I61 : jI, I61 = jpI I v0 22 (0 : Int32) → (f_X12_in v1 (0 : Int32) (1 : Int32) Z I61 L (fun r67 I64 L65 => ((¬ r67 = 0 → (∀ b69 : Nat, jr Z v0 63 = some b69 → (vp_in v1 2 ∧ (∀ I71 : jI, I71 = jpI I64 b69 v1.toNatClampNeg (vp_nar .boolean (1 : Int32)) → (∀ b72 : Nat, jr Z v0 64 = some b72 → (vp_in v1 2 ∧ (∀ I74 : jI, I74 = jpI I71 b72 v1.toNatClampNeg (I71 v0 7) → (∀ b75 : Nat, jr Z v0 65 = some b75 → (vp_in v1 2 ∧ (∀ I77 : jI, I77 = jpI I74 b75 v1.toNatClampNeg (I74 v0 8) → (∀ I78 : jI, I78 = jpI I77 v0 66 ((266 : Int32) * v1) → (∃ m54 : Nat, f_X12_keep_L54  Z Q m54 v0 (0 : Int32) I78 L65)))))))))))) ∧ (r67 = 0 → Q (0 : Int32) I64 L65)))))
set_option maxHeartbeats 4000000 in
set_option maxRecDepth 100000 in
theorem c_X12_keep (l : Launch) (D : va_G) (cy : jC) (v0 : Nat) (v1 : Int32) (Z : jZ) (I : jI) (L : jL) (Q : Int32 → jI → jL → Prop) (hZ : SH Z) (kv0 : jk Z v0 12) (h : f_X12_keep v0 v1 Z I L Q) : jCt l yX12_keep w_X12_keep { frames := 1, cells := 0, slots := 0, locals := 22 } D cy [.ref v0, .int v1] Z I L (rtZ Z Q) := by
  refine jCt_of (cc := cX12_keep) (maxL := 3) (ret := (some .boolean)) (by decide +kernel) rfl (Nat.le_of_ble_eq_true rfl) ?_
  intro G eD eY eL E
  subst eD; subst eY; subst eL
  have E : jE G cX12_keep RX12 w_X12_keep 3 (some .boolean) { frames := 1, cells := 0, slots := 0, locals := 22 } (rtZ Z Q) := E
  show jJ G 3 0 [(0, .ref v0), (1, .int v1)] [] Z I L 0 0
  refine j_aload_n E dX12_keep_0 0 rfl ?_
  refine j_iconst E (v := 0) dX12_keep_1 (by decide) ?_
  refine j_puti E 12 22 rfl rfl (by decide) (by decide) (iw iT_12) tyX12_ok nmX12 rfl rfl (tw W_674) rfl rfl rfl kv0 dX12_keep_2 ?_
  refine j_nmI (fun I61 eI61 => ?_)
  have h := h I61 eI61
  refine j_iload_n E dX12_keep_5 1 rfl ?_
  refine j_iconst E (v := 0) dX12_keep_6 (by decide) ?_
  refine j_iconst E (v := 1) dX12_keep_7 (by decide) ?_
  refine j_callS E [.int v1, .int (0 : Int32), .int (1 : Int32)] [] (c_X12_in (gL G) (gD G) (gY G) v1 (0 : Int32) (1 : Int32) Z I61 L _ hZ  h) (gwS W_680 W_681 W_679 W_678) rfl fy_X12_in ⟨by decide, by decide⟩ rfl rfl (Nat.le_of_ble_eq_true rfl) ⟨Nat.zero_le _, Nat.zero_le _⟩ dX12_keep_8 (fun v62 Z63 I64 L65 q66 => ?_)
  obtain ⟨rfl, r67, rfl, zr67, h⟩ := q66
  show jJ G 3 11 [(0, .ref v0), (1, .int v1)] [.int r67] Z I64 L65 0 0
  refine j_if_ne E 16 dX12_keep_11 (by decide) (fun c68 => ?_) (fun c68 => ?_)
  · have h := h.1 c68
    refine j_aload_n E dX12_keep_16 0 rfl ?_
    obtain ⟨b69, eb69, kb69, lb69⟩ := sh_f hZ kv0 (j := 63) (k := 16) (m := 2) rfl
    have h := h b69 eb69
    refine j_getr E 12 63 rfl rfl (by decide) (by decide) (iw iT_12) rfl rfl (tw W_905) kv0 eb69 dX12_keep_17 ?_
    refine j_iload_n E dX12_keep_20 1 rfl ?_
    refine j_iconst E (v := 1) dX12_keep_21 (by decide) ?_
    obtain ⟨o70, h⟩ := h
    refine j_zast E kb69 (by rw [lb69]; exact o70) dX12_keep_22 ?_
    refine j_nmI (fun I71 eI71 => ?_)
    have h := h I71 eI71
    refine j_aload_n E dX12_keep_23 0 rfl ?_
    obtain ⟨b72, eb72, kb72, lb72⟩ := sh_f hZ kv0 (j := 64) (k := 14) (m := 2) rfl
    have h := h b72 eb72
    refine j_getr E 12 64 rfl rfl (by decide) (by decide) (iw iT_12) rfl rfl (tw W_906) kv0 eb72 dX12_keep_24 ?_
    refine j_iload_n E dX12_keep_27 1 rfl ?_
    refine j_aload_n E dX12_keep_28 0 rfl ?_
    refine j_geti E 12 7 rfl rfl (by decide) (by decide) (iw iT_12) rfl rfl (tw W_723) kv0 dX12_keep_29 ?_
    obtain ⟨o73, h⟩ := h
    refine j_iast E kb72 (by rw [lb72]; exact o73) dX12_keep_32 ?_
    refine j_nmI (fun I74 eI74 => ?_)
    have h := h I74 eI74
    refine j_aload_n E dX12_keep_33 0 rfl ?_
    obtain ⟨b75, eb75, kb75, lb75⟩ := sh_f hZ kv0 (j := 65) (k := 14) (m := 2) rfl
    have h := h b75 eb75
    refine j_getr E 12 65 rfl rfl (by decide) (by decide) (iw iT_12) rfl rfl (tw W_907) kv0 eb75 dX12_keep_34 ?_
    refine j_iload_n E dX12_keep_37 1 rfl ?_
    refine j_aload_n E dX12_keep_38 0 rfl ?_
    refine j_geti E 12 8 rfl rfl (by decide) (by decide) (iw iT_12) rfl rfl (tw W_682) kv0 dX12_keep_39 ?_
    obtain ⟨o76, h⟩ := h
    refine j_iast E kb75 (by rw [lb75]; exact o76) dX12_keep_42 ?_
    refine j_nmI (fun I77 eI77 => ?_)
    have h := h I77 eI77
    refine j_aload_n E dX12_keep_43 0 rfl ?_
    refine j_sipush E (v := 266) dX12_keep_44 (by decide) ?_
    refine j_iload_n E dX12_keep_47 1 rfl ?_
    refine j_imul E dX12_keep_48 ?_
    refine j_puti E 12 66 rfl rfl (by decide) (by decide) (iw iT_12) tyX12_ok nmX12 rfl rfl (tw W_900) rfl rfl rfl kv0 dX12_keep_49 ?_
    refine j_nmI (fun I78 eI78 => ?_)
    have h := h I78 eI78
    refine j_iconst E (v := 0) dX12_keep_52 (by decide) ?_
    refine j_istore_n E 2 [(2, .int (0 : Int32)), (0, .ref v0), (1, .int v1)] dX12_keep_53 rfl (by decide) rfl ?_
    obtain ⟨n79, h⟩ := h
    refine j_sub [1, 0] rfl ?_
    exact m_X12_keep_L54 E hZ  n79 v0 (0 : Int32) I78 L65 kv0 h
  · have h := h.2 c68
    refine j_iconst E (v := 0) dX12_keep_14 (by decide) ?_
    exact j_zreturn E (Or.inl rfl) ⟨rfl, _, rfl, (Or.inl rfl), h⟩ (Nat.zero_le _) (Nat.zero_le _) dX12_keep_15
set_option maxRecDepth 100000 in
def f_X12_again_L175  (Z : jZ) (Q : Int32 → jI → jL → Prop) : Nat → Nat → Int32 → jI → jL → Prop
  | 0 => fun _ _ _ _ => False
  | n + 1 => fun v0 v2 I L => (((8 : Int32) ≤ v2 → (∀ I2 : jI, I2 = jpI I v0 52 (0 : Int32) → Q (1 : Int32) I2 L)) ∧ (¬ ((8 : Int32) ≤ v2) → (∀ b3 : Nat, jr Z v0 17 = some b3 → (f_X12_take v0 Z I L (fun r9 I6 L7 => (vp_in v2 8 ∧ (∀ I11 : jI, I11 = jpI I6 b3 v2.toNatClampNeg r9 → (∀ x12 : Int32, x12 = v2 + 1 → (f_X12_again_L175 Z Q n) v0 x12 I11 L7))))))))
set_option maxHeartbeats 4000000 in
set_option maxRecDepth 100000 in
theorem m_X12_again_L175 {G : jG} {Z : jZ} {Q : Int32 → jI → jL → Prop} (E : jE G cX12_again RX12 w_X12_again 6 (some .boolean) { frames := 1, cells := 0, slots := 0, locals := 22 } (rtZ Z Q)) (hZ : SH Z)  : ∀ (n : Nat) (v0 : Nat) (v2 : Int32) (I : jI) (L : jL), jk Z v0 12 → f_X12_again_L175  Z Q n v0 v2 I L → jJ G 6 175 [(0, .ref v0), (2, .int v2)] [] Z I L 0 0 := by
  intro n
  induction n with
  | zero => intro v0 v2 I L _ h; exact h.elim
  | succ n ih =>
    intro v0 v2 I L kv0 h
    have h : (((8 : Int32) ≤ v2 → (∀ I2 : jI, I2 = jpI I v0 52 (0 : Int32) → Q (1 : Int32) I2 L)) ∧ (¬ ((8 : Int32) ≤ v2) → (∀ b3 : Nat, jr Z v0 17 = some b3 → (f_X12_take v0 Z I L (fun r9 I6 L7 => (vp_in v2 8 ∧ (∀ I11 : jI, I11 = jpI I6 b3 v2.toNatClampNeg r9 → (∀ x12 : Int32, x12 = v2 + 1 → (f_X12_again_L175 Z Q n) v0 x12 I11 L7)))))))) := h
    obtain ⟨K175, eK175⟩ : ∃ K : Nat → Int32 → jI → jL → Prop, K = f_X12_again_L175  Z Q n := ⟨_, rfl⟩
    have hK175 := ih
    clear eK175 K175
    generalize f_X12_again_L175  Z Q n = K175 at hK175 h
    refine j_iload_n E dX12_again_175 1 rfl ?_
    refine j_bipush E (v := 8) dX12_again_176 (by decide) ?_
    refine j_icmp_ge E 197 dX12_again_178 (by decide) (fun c1 => ?_) (fun c1 => ?_)
    · have h := h.1 c1
      refine j_aload_n E dX12_again_197 0 rfl ?_
      refine j_iconst E (v := 0) dX12_again_198 (by decide) ?_
      refine j_puti E 12 52 rfl rfl (by decide) (by decide) (iw iT_12) tyX12_ok nmX12 rfl rfl (tw W_724) rfl rfl rfl kv0 dX12_again_199 ?_
      refine j_nmI (fun I2 eI2 => ?_)
      have h := h I2 eI2
      refine j_iconst E (v := 1) dX12_again_202 (by decide) ?_
      exact j_zreturn E (Or.inr rfl) ⟨rfl, _, rfl, (Or.inr rfl), h⟩ (Nat.zero_le _) (Nat.zero_le _) dX12_again_203
    · have h := h.2 c1
      refine j_aload_n E dX12_again_181 0 rfl ?_
      obtain ⟨b3, eb3, kb3, lb3⟩ := sh_f hZ kv0 (j := 17) (k := 14) (m := 8) rfl
      have h := h b3 eb3
      refine j_getr E 12 17 rfl rfl (by decide) (by decide) (iw iT_12) rfl rfl (tw W_721) kv0 eb3 dX12_again_182 ?_
      refine j_iload_n E dX12_again_185 1 rfl ?_
      refine j_aload_n E dX12_again_186 0 rfl ?_
      refine j_callV E [] [.int v2, .ref b3] (c_X12_take (gL G) (gD G) (gY G) v0 Z I L _ hZ kv0 h) (gwV W_909 W_910 W_911 W_679 W_908) rfl ⟨rfl, fy_X12_take⟩ ⟨by decide, by decide⟩ (c := 12) rfl (by decide) kv0 rfl rfl (Nat.le_of_ble_eq_true rfl) ⟨Nat.zero_le _, Nat.zero_le _⟩ dX12_again_187 (fun v4 Z5 I6 L7 q8 => ?_)
      obtain ⟨rfl, r9, rfl, h⟩ := q8
      show jJ G 6 190 [(0, .ref v0), (2, .int v2)] [.int r9, .int v2, .ref b3] Z I6 L7 0 0
      obtain ⟨o10, h⟩ := h
      refine j_iast E kb3 (by rw [lb3]; exact o10) dX12_again_190 ?_
      refine j_nmI (fun I11 eI11 => ?_)
      have h := h I11 eI11
      obtain ⟨x12, ex12⟩ : ∃ y : Int32, y = v2 + 1 := ⟨_, rfl⟩
      have h := h x12 ex12
      refine j_iinc E x12 [(2, .int x12), (0, .ref v0)] dX12_again_191 1 rfl (by rw [ex12]; rfl) (by decide) rfl ?_
      refine j_goto E 175 dX12_again_194 (by decide) ?_
      refine j_sub [1, 0] rfl ?_
      exact hK175 v0 x12 I11 L7 kv0 h
set_option maxRecDepth 100000 in
def f_X12_again_b167 (K108 : Nat → Int32 → Int32 → jI → jL → Prop) (Z : jZ) (Q : Int32 → jI → jL → Prop) (v0 : Nat) (v1 : Int32) (v2 : Int32) (I : jI) (L : jL) : Prop := (∀ x13 : Int32, x13 = v2 + 1 → K108 v0 v1 x13 I L)
set_option maxHeartbeats 4000000 in
set_option maxRecDepth 100000 in
theorem m_X12_again_b167 {G : jG} {Z : jZ} {Q : Int32 → jI → jL → Prop} (E : jE G cX12_again RX12 w_X12_again 6 (some .boolean) { frames := 1, cells := 0, slots := 0, locals := 22 } (rtZ Z Q)) (hZ : SH Z) (K108 : Nat → Int32 → Int32 → jI → jL → Prop) (hK108 : ∀ (v0 : Nat) (v1 : Int32) (v2 : Int32) (I : jI) (L : jL), jk Z v0 12 → K108 v0 v1 v2 I L → jJ G 6 108 [(0, .ref v0), (1, .int v1), (2, .int v2)] [] Z I L 0 0) (v0 : Nat) (v1 : Int32) (v2 : Int32) (I : jI) (L : jL) (kv0 : jk Z v0 12) (h : f_X12_again_b167 K108 Z Q v0 v1 v2 I L) : jJ G 6 167 [(0, .ref v0), (1, .int v1), (2, .int v2)] [] Z I L 0 0 := by
  obtain ⟨x13, ex13⟩ : ∃ y : Int32, y = v2 + 1 := ⟨_, rfl⟩
  have h := h x13 ex13
  refine j_iinc E x13 [(2, .int x13), (0, .ref v0), (1, .int v1)] dX12_again_167 2 rfl (by rw [ex13]; rfl) (by decide) rfl ?_
  refine j_goto E 108 dX12_again_170 (by decide) ?_
  refine j_sub [1, 2, 0] rfl ?_
  exact hK108 v0 v1 x13 I L kv0 h
set_option maxRecDepth 100000 in
def f_X12_again_L108  (Z : jZ) (Q : Int32 → jI → jL → Prop) : Nat → Nat → Int32 → Int32 → jI → jL → Prop
  | 0 => fun _ _ _ _ _ => False
  | n + 1 => fun v0 v1 v2 I L => (((6 : Int32) ≤ v2 → (∃ m175 : Nat, f_X12_again_L175  Z Q m175 v0 (0 : Int32) I L)) ∧ (¬ ((6 : Int32) ≤ v2) → (f_X12_take v0 Z I L (fun r21 I18 L19 => (f_X12_take v0 Z I18 L19 (fun r27 I24 L25 => (f_X12_take v0 Z I24 L25 (fun r33 I30 L31 => (∀ b34 : Nat, jr Z v0 65 = some b34 → (vp_in v1 2 ∧ ((v2 < (I30 b34 v1.toNatClampNeg) → (∀ b37 : Nat, jr Z v0 14 = some b37 → (vp_in v2 6 ∧ (∀ I39 : jI, I39 = jpI I30 b37 v2.toNatClampNeg r21 → (∀ b40 : Nat, jr Z v0 15 = some b40 → (vp_in v2 6 ∧ (∀ I42 : jI, I42 = jpI I39 b40 v2.toNatClampNeg r27 → (∀ b43 : Nat, jr Z v0 16 = some b43 → (vp_in v2 6 ∧ (∀ I45 : jI, I45 = jpI I42 b43 v2.toNatClampNeg r33 → f_X12_again_b167 (f_X12_again_L108 Z Q n) Z Q v0 v1 v2 I45 L31)))))))))) ∧ (¬ (v2 < (I30 b34 v1.toNatClampNeg)) → f_X12_again_b167 (f_X12_again_L108 Z Q n) Z Q v0 v1 v2 I30 L31))))))))))))
set_option maxHeartbeats 4000000 in
set_option maxRecDepth 100000 in
theorem m_X12_again_L108 {G : jG} {Z : jZ} {Q : Int32 → jI → jL → Prop} (E : jE G cX12_again RX12 w_X12_again 6 (some .boolean) { frames := 1, cells := 0, slots := 0, locals := 22 } (rtZ Z Q)) (hZ : SH Z)  : ∀ (n : Nat) (v0 : Nat) (v1 : Int32) (v2 : Int32) (I : jI) (L : jL), jk Z v0 12 → f_X12_again_L108  Z Q n v0 v1 v2 I L → jJ G 6 108 [(0, .ref v0), (1, .int v1), (2, .int v2)] [] Z I L 0 0 := by
  intro n
  induction n with
  | zero => intro v0 v1 v2 I L _ h; exact h.elim
  | succ n ih =>
    intro v0 v1 v2 I L kv0 h
    have h : (((6 : Int32) ≤ v2 → (∃ m175 : Nat, f_X12_again_L175  Z Q m175 v0 (0 : Int32) I L)) ∧ (¬ ((6 : Int32) ≤ v2) → (f_X12_take v0 Z I L (fun r21 I18 L19 => (f_X12_take v0 Z I18 L19 (fun r27 I24 L25 => (f_X12_take v0 Z I24 L25 (fun r33 I30 L31 => (∀ b34 : Nat, jr Z v0 65 = some b34 → (vp_in v1 2 ∧ ((v2 < (I30 b34 v1.toNatClampNeg) → (∀ b37 : Nat, jr Z v0 14 = some b37 → (vp_in v2 6 ∧ (∀ I39 : jI, I39 = jpI I30 b37 v2.toNatClampNeg r21 → (∀ b40 : Nat, jr Z v0 15 = some b40 → (vp_in v2 6 ∧ (∀ I42 : jI, I42 = jpI I39 b40 v2.toNatClampNeg r27 → (∀ b43 : Nat, jr Z v0 16 = some b43 → (vp_in v2 6 ∧ (∀ I45 : jI, I45 = jpI I42 b43 v2.toNatClampNeg r33 → f_X12_again_b167 (f_X12_again_L108 Z Q n) Z Q v0 v1 v2 I45 L31)))))))))) ∧ (¬ (v2 < (I30 b34 v1.toNatClampNeg)) → f_X12_again_b167 (f_X12_again_L108 Z Q n) Z Q v0 v1 v2 I30 L31)))))))))))) := h
    obtain ⟨K108, eK108⟩ : ∃ K : Nat → Int32 → Int32 → jI → jL → Prop, K = f_X12_again_L108  Z Q n := ⟨_, rfl⟩
    have hK108 := ih
    clear eK108 K108
    generalize f_X12_again_L108  Z Q n = K108 at hK108 h
    refine j_iload_n E dX12_again_108 2 rfl ?_
    refine j_bipush E (v := 6) dX12_again_109 (by decide) ?_
    refine j_icmp_ge E 173 dX12_again_111 (by decide) (fun c14 => ?_) (fun c14 => ?_)
    · have h := h.1 c14
      refine j_iconst E (v := 0) dX12_again_173 (by decide) ?_
      refine j_istore_n E 2 [(2, .int (0 : Int32)), (0, .ref v0), (1, .int v1)] dX12_again_174 rfl (by decide) rfl ?_
      obtain ⟨n15, h⟩ := h
      refine j_sub [1, 0] rfl ?_
      exact m_X12_again_L175 E hZ  n15 v0 (0 : Int32) I L kv0 h
    · have h := h.2 c14
      refine j_aload_n E dX12_again_114 0 rfl ?_
      refine j_callV E [] [] (c_X12_take (gL G) (gD G) (gY G) v0 Z I L _ hZ kv0 h) (gwV W_909 W_910 W_911 W_679 W_908) rfl ⟨rfl, fy_X12_take⟩ ⟨by decide, by decide⟩ (c := 12) rfl (by decide) kv0 rfl rfl (Nat.le_of_ble_eq_true rfl) ⟨Nat.zero_le _, Nat.zero_le _⟩ dX12_again_115 (fun v16 Z17 I18 L19 q20 => ?_)
      obtain ⟨rfl, r21, rfl, h⟩ := q20
      show jJ G 6 118 [(0, .ref v0), (1, .int v1), (2, .int v2)] [.int r21] Z I18 L19 0 0
      refine j_istore_n E 3 [(3, .int r21), (0, .ref v0), (1, .int v1), (2, .int v2)] dX12_again_118 rfl (by decide) rfl ?_
      refine j_aload_n E dX12_again_119 1 rfl ?_
      refine j_callV E [] [] (c_X12_take (gL G) (gD G) (gY G) v0 Z I18 L19 _ hZ kv0 h) (gwV W_909 W_910 W_911 W_679 W_908) rfl ⟨rfl, fy_X12_take⟩ ⟨by decide, by decide⟩ (c := 12) rfl (by decide) kv0 rfl rfl (Nat.le_of_ble_eq_true rfl) ⟨Nat.zero_le _, Nat.zero_le _⟩ dX12_again_120 (fun v22 Z23 I24 L25 q26 => ?_)
      obtain ⟨rfl, r27, rfl, h⟩ := q26
      show jJ G 6 123 [(3, .int r21), (0, .ref v0), (1, .int v1), (2, .int v2)] [.int r27] Z I24 L25 0 0
      refine j_istore E 4 [(4, .int r27), (3, .int r21), (0, .ref v0), (1, .int v1), (2, .int v2)] dX12_again_123 (by decide) rfl ?_
      refine j_aload_n E dX12_again_125 2 rfl ?_
      refine j_callV E [] [] (c_X12_take (gL G) (gD G) (gY G) v0 Z I24 L25 _ hZ kv0 h) (gwV W_909 W_910 W_911 W_679 W_908) rfl ⟨rfl, fy_X12_take⟩ ⟨by decide, by decide⟩ (c := 12) rfl (by decide) kv0 rfl rfl (Nat.le_of_ble_eq_true rfl) ⟨Nat.zero_le _, Nat.zero_le _⟩ dX12_again_126 (fun v28 Z29 I30 L31 q32 => ?_)
      obtain ⟨rfl, r33, rfl, h⟩ := q32
      show jJ G 6 129 [(4, .int r27), (3, .int r21), (0, .ref v0), (1, .int v1), (2, .int v2)] [.int r33] Z I30 L31 0 0
      refine j_istore E 5 [(5, .int r33), (4, .int r27), (3, .int r21), (0, .ref v0), (1, .int v1), (2, .int v2)] dX12_again_129 (by decide) rfl ?_
      refine j_iload_n E dX12_again_131 5 rfl ?_
      refine j_aload_n E dX12_again_132 3 rfl ?_
      obtain ⟨b34, eb34, kb34, lb34⟩ := sh_f hZ kv0 (j := 65) (k := 14) (m := 2) rfl
      have h := h b34 eb34
      refine j_getr E 12 65 rfl rfl (by decide) (by decide) (iw iT_12) rfl rfl (tw W_907) kv0 eb34 dX12_again_133 ?_
      refine j_iload_n E dX12_again_136 4 rfl ?_
      obtain ⟨o35, h⟩ := h
      refine j_iald E kb34 (by rw [lb34]; exact o35) dX12_again_137 ?_
      refine j_icmp_lt E 144 dX12_again_138 (by decide) (fun c36 => ?_) (fun c36 => ?_)
      · have h := h.1 c36
        refine j_aload_n E dX12_again_144 3 rfl ?_
        obtain ⟨b37, eb37, kb37, lb37⟩ := sh_f hZ kv0 (j := 14) (k := 14) (m := 6) rfl
        have h := h b37 eb37
        refine j_getr E 12 14 rfl rfl (by decide) (by decide) (iw iT_12) rfl rfl (tw W_716) kv0 eb37 dX12_again_145 ?_
        refine j_iload_n E dX12_again_148 5 rfl ?_
        refine j_iload_n E dX12_again_149 2 rfl ?_
        obtain ⟨o38, h⟩ := h
        refine j_iast E kb37 (by rw [lb37]; exact o38) dX12_again_150 ?_
        refine j_nmI (fun I39 eI39 => ?_)
        have h := h I39 eI39
        refine j_aload_n E dX12_again_151 3 rfl ?_
        obtain ⟨b40, eb40, kb40, lb40⟩ := sh_f hZ kv0 (j := 15) (k := 14) (m := 6) rfl
        have h := h b40 eb40
        refine j_getr E 12 15 rfl rfl (by decide) (by decide) (iw iT_12) rfl rfl (tw W_717) kv0 eb40 dX12_again_152 ?_
        refine j_iload_n E dX12_again_155 5 rfl ?_
        refine j_iload E dX12_again_156 1 rfl ?_
        obtain ⟨o41, h⟩ := h
        refine j_iast E kb40 (by rw [lb40]; exact o41) dX12_again_158 ?_
        refine j_nmI (fun I42 eI42 => ?_)
        have h := h I42 eI42
        refine j_aload_n E dX12_again_159 3 rfl ?_
        obtain ⟨b43, eb43, kb43, lb43⟩ := sh_f hZ kv0 (j := 16) (k := 14) (m := 6) rfl
        have h := h b43 eb43
        refine j_getr E 12 16 rfl rfl (by decide) (by decide) (iw iT_12) rfl rfl (tw W_719) kv0 eb43 dX12_again_160 ?_
        refine j_iload_n E dX12_again_163 5 rfl ?_
        refine j_iload E dX12_again_164 0 rfl ?_
        obtain ⟨o44, h⟩ := h
        refine j_iast E kb43 (by rw [lb43]; exact o44) dX12_again_166 ?_
        refine j_nmI (fun I45 eI45 => ?_)
        have h := h I45 eI45
        refine j_sub [3, 4, 5] rfl ?_
        exact m_X12_again_b167 E hZ K108 hK108 v0 v1 v2 I45 L31 kv0 h
      · have h := h.2 c36
        refine j_goto E 167 dX12_again_141 (by decide) ?_
        refine j_sub [3, 4, 5] rfl ?_
        exact m_X12_again_b167 E hZ K108 hK108 v0 v1 v2 I30 L31 kv0 h
set_option maxRecDepth 100000 in
def f_X12_again_L83  (Z : jZ) (Q : Int32 → jI → jL → Prop) : Nat → Nat → Int32 → Int32 → jI → jL → Prop
  | 0 => fun _ _ _ _ _ => False
  | n + 1 => fun v0 v1 v2 I L => (((192 : Int32) ≤ v2 → (∃ m108 : Nat, f_X12_again_L108  Z Q m108 v0 v1 (0 : Int32) I L)) ∧ (¬ ((192 : Int32) ≤ v2) → (∀ b48 : Nat, jr Z v0 5 = some b48 → (f_X12_take v0 Z I L (fun r54 I51 L52 => (vp_in v2 192 ∧ (∀ I56 : jI, I56 = jpI I51 b48 v2.toNatClampNeg r54 → (∀ x57 : Int32, x57 = v2 + 1 → (f_X12_again_L83 Z Q n) v0 v1 x57 I56 L52))))))))
set_option maxHeartbeats 4000000 in
set_option maxRecDepth 100000 in
theorem m_X12_again_L83 {G : jG} {Z : jZ} {Q : Int32 → jI → jL → Prop} (E : jE G cX12_again RX12 w_X12_again 6 (some .boolean) { frames := 1, cells := 0, slots := 0, locals := 22 } (rtZ Z Q)) (hZ : SH Z)  : ∀ (n : Nat) (v0 : Nat) (v1 : Int32) (v2 : Int32) (I : jI) (L : jL), jk Z v0 12 → f_X12_again_L83  Z Q n v0 v1 v2 I L → jJ G 6 83 [(0, .ref v0), (1, .int v1), (2, .int v2)] [] Z I L 0 0 := by
  intro n
  induction n with
  | zero => intro v0 v1 v2 I L _ h; exact h.elim
  | succ n ih =>
    intro v0 v1 v2 I L kv0 h
    have h : (((192 : Int32) ≤ v2 → (∃ m108 : Nat, f_X12_again_L108  Z Q m108 v0 v1 (0 : Int32) I L)) ∧ (¬ ((192 : Int32) ≤ v2) → (∀ b48 : Nat, jr Z v0 5 = some b48 → (f_X12_take v0 Z I L (fun r54 I51 L52 => (vp_in v2 192 ∧ (∀ I56 : jI, I56 = jpI I51 b48 v2.toNatClampNeg r54 → (∀ x57 : Int32, x57 = v2 + 1 → (f_X12_again_L83 Z Q n) v0 v1 x57 I56 L52)))))))) := h
    obtain ⟨K83, eK83⟩ : ∃ K : Nat → Int32 → Int32 → jI → jL → Prop, K = f_X12_again_L83  Z Q n := ⟨_, rfl⟩
    have hK83 := ih
    clear eK83 K83
    generalize f_X12_again_L83  Z Q n = K83 at hK83 h
    refine j_iload_n E dX12_again_83 2 rfl ?_
    refine j_sipush E (v := 192) dX12_again_84 (by decide) ?_
    refine j_icmp_ge E 106 dX12_again_87 (by decide) (fun c46 => ?_) (fun c46 => ?_)
    · have h := h.1 c46
      refine j_iconst E (v := 0) dX12_again_106 (by decide) ?_
      refine j_istore_n E 2 [(2, .int (0 : Int32)), (0, .ref v0), (1, .int v1)] dX12_again_107 rfl (by decide) rfl ?_
      obtain ⟨n47, h⟩ := h
      refine j_sub [1, 2, 0] rfl ?_
      exact m_X12_again_L108 E hZ  n47 v0 v1 (0 : Int32) I L kv0 h
    · have h := h.2 c46
      refine j_aload_n E dX12_again_90 0 rfl ?_
      obtain ⟨b48, eb48, kb48, lb48⟩ := sh_f hZ kv0 (j := 5) (k := 14) (m := 192) rfl
      have h := h b48 eb48
      refine j_getr E 12 5 rfl rfl (by decide) (by decide) (iw iT_12) rfl rfl (tw W_683) kv0 eb48 dX12_again_91 ?_
      refine j_iload_n E dX12_again_94 2 rfl ?_
      refine j_aload_n E dX12_again_95 0 rfl ?_
      refine j_callV E [] [.int v2, .ref b48] (c_X12_take (gL G) (gD G) (gY G) v0 Z I L _ hZ kv0 h) (gwV W_909 W_910 W_911 W_679 W_908) rfl ⟨rfl, fy_X12_take⟩ ⟨by decide, by decide⟩ (c := 12) rfl (by decide) kv0 rfl rfl (Nat.le_of_ble_eq_true rfl) ⟨Nat.zero_le _, Nat.zero_le _⟩ dX12_again_96 (fun v49 Z50 I51 L52 q53 => ?_)
      obtain ⟨rfl, r54, rfl, h⟩ := q53
      show jJ G 6 99 [(0, .ref v0), (1, .int v1), (2, .int v2)] [.int r54, .int v2, .ref b48] Z I51 L52 0 0
      obtain ⟨o55, h⟩ := h
      refine j_iast E kb48 (by rw [lb48]; exact o55) dX12_again_99 ?_
      refine j_nmI (fun I56 eI56 => ?_)
      have h := h I56 eI56
      obtain ⟨x57, ex57⟩ : ∃ y : Int32, y = v2 + 1 := ⟨_, rfl⟩
      have h := h x57 ex57
      refine j_iinc E x57 [(2, .int x57), (0, .ref v0), (1, .int v1)] dX12_again_100 2 rfl (by rw [ex57]; rfl) (by decide) rfl ?_
      refine j_goto E 83 dX12_again_103 (by decide) ?_
      refine j_sub [1, 2, 0] rfl ?_
      exact hK83 v0 v1 x57 I56 L52 kv0 h
set_option maxRecDepth 100000 in
def f_X12_again_L49  (Z : jZ) (Q : Int32 → jI → jL → Prop) : Nat → Nat → Int32 → Int32 → jI → jL → Prop
  | 0 => fun _ _ _ _ _ => False
  | n + 1 => fun v0 v1 v2 I L => (((24 : Int32) ≤ v2 → (∃ m83 : Nat, f_X12_again_L83  Z Q m83 v0 v1 (0 : Int32) I L)) ∧ (¬ ((24 : Int32) ≤ v2) → (∀ b60 : Nat, jr Z v0 2 = some b60 → (f_X12_take v0 Z I L (fun r66 I63 L64 => (vp_in v2 24 ∧ (∀ I68 : jI, I68 = jpI I63 b60 v2.toNatClampNeg r66 → (∀ b69 : Nat, jr Z v0 3 = some b69 → (f_X12_take v0 Z I68 L64 (fun r75 I72 L73 => (vp_in v2 24 ∧ (∀ I77 : jI, I77 = jpI I72 b69 v2.toNatClampNeg r75 → (∀ x78 : Int32, x78 = v2 + 1 → (f_X12_again_L49 Z Q n) v0 v1 x78 I77 L73)))))))))))))
set_option maxHeartbeats 4000000 in
set_option maxRecDepth 100000 in
theorem m_X12_again_L49 {G : jG} {Z : jZ} {Q : Int32 → jI → jL → Prop} (E : jE G cX12_again RX12 w_X12_again 6 (some .boolean) { frames := 1, cells := 0, slots := 0, locals := 22 } (rtZ Z Q)) (hZ : SH Z)  : ∀ (n : Nat) (v0 : Nat) (v1 : Int32) (v2 : Int32) (I : jI) (L : jL), jk Z v0 12 → f_X12_again_L49  Z Q n v0 v1 v2 I L → jJ G 6 49 [(0, .ref v0), (1, .int v1), (2, .int v2)] [] Z I L 0 0 := by
  intro n
  induction n with
  | zero => intro v0 v1 v2 I L _ h; exact h.elim
  | succ n ih =>
    intro v0 v1 v2 I L kv0 h
    have h : (((24 : Int32) ≤ v2 → (∃ m83 : Nat, f_X12_again_L83  Z Q m83 v0 v1 (0 : Int32) I L)) ∧ (¬ ((24 : Int32) ≤ v2) → (∀ b60 : Nat, jr Z v0 2 = some b60 → (f_X12_take v0 Z I L (fun r66 I63 L64 => (vp_in v2 24 ∧ (∀ I68 : jI, I68 = jpI I63 b60 v2.toNatClampNeg r66 → (∀ b69 : Nat, jr Z v0 3 = some b69 → (f_X12_take v0 Z I68 L64 (fun r75 I72 L73 => (vp_in v2 24 ∧ (∀ I77 : jI, I77 = jpI I72 b69 v2.toNatClampNeg r75 → (∀ x78 : Int32, x78 = v2 + 1 → (f_X12_again_L49 Z Q n) v0 v1 x78 I77 L73))))))))))))) := h
    obtain ⟨K49, eK49⟩ : ∃ K : Nat → Int32 → Int32 → jI → jL → Prop, K = f_X12_again_L49  Z Q n := ⟨_, rfl⟩
    have hK49 := ih
    clear eK49 K49
    generalize f_X12_again_L49  Z Q n = K49 at hK49 h
    refine j_iload_n E dX12_again_49 2 rfl ?_
    refine j_bipush E (v := 24) dX12_again_50 (by decide) ?_
    refine j_icmp_ge E 81 dX12_again_52 (by decide) (fun c58 => ?_) (fun c58 => ?_)
    · have h := h.1 c58
      refine j_iconst E (v := 0) dX12_again_81 (by decide) ?_
      refine j_istore_n E 2 [(2, .int (0 : Int32)), (0, .ref v0), (1, .int v1)] dX12_again_82 rfl (by decide) rfl ?_
      obtain ⟨n59, h⟩ := h
      refine j_sub [1, 2, 0] rfl ?_
      exact m_X12_again_L83 E hZ  n59 v0 v1 (0 : Int32) I L kv0 h
    · have h := h.2 c58
      refine j_aload_n E dX12_again_55 0 rfl ?_
      obtain ⟨b60, eb60, kb60, lb60⟩ := sh_f hZ kv0 (j := 2) (k := 14) (m := 24) rfl
      have h := h b60 eb60
      refine j_getr E 12 2 rfl rfl (by decide) (by decide) (iw iT_12) rfl rfl (tw W_726) kv0 eb60 dX12_again_56 ?_
      refine j_iload_n E dX12_again_59 2 rfl ?_
      refine j_aload_n E dX12_again_60 0 rfl ?_
      refine j_callV E [] [.int v2, .ref b60] (c_X12_take (gL G) (gD G) (gY G) v0 Z I L _ hZ kv0 h) (gwV W_909 W_910 W_911 W_679 W_908) rfl ⟨rfl, fy_X12_take⟩ ⟨by decide, by decide⟩ (c := 12) rfl (by decide) kv0 rfl rfl (Nat.le_of_ble_eq_true rfl) ⟨Nat.zero_le _, Nat.zero_le _⟩ dX12_again_61 (fun v61 Z62 I63 L64 q65 => ?_)
      obtain ⟨rfl, r66, rfl, h⟩ := q65
      show jJ G 6 64 [(0, .ref v0), (1, .int v1), (2, .int v2)] [.int r66, .int v2, .ref b60] Z I63 L64 0 0
      obtain ⟨o67, h⟩ := h
      refine j_iast E kb60 (by rw [lb60]; exact o67) dX12_again_64 ?_
      refine j_nmI (fun I68 eI68 => ?_)
      have h := h I68 eI68
      refine j_aload_n E dX12_again_65 0 rfl ?_
      obtain ⟨b69, eb69, kb69, lb69⟩ := sh_f hZ kv0 (j := 3) (k := 14) (m := 24) rfl
      have h := h b69 eb69
      refine j_getr E 12 3 rfl rfl (by decide) (by decide) (iw iT_12) rfl rfl (tw W_727) kv0 eb69 dX12_again_66 ?_
      refine j_iload_n E dX12_again_69 2 rfl ?_
      refine j_aload_n E dX12_again_70 0 rfl ?_
      refine j_callV E [] [.int v2, .ref b69] (c_X12_take (gL G) (gD G) (gY G) v0 Z I68 L64 _ hZ kv0 h) (gwV W_909 W_910 W_911 W_679 W_908) rfl ⟨rfl, fy_X12_take⟩ ⟨by decide, by decide⟩ (c := 12) rfl (by decide) kv0 rfl rfl (Nat.le_of_ble_eq_true rfl) ⟨Nat.zero_le _, Nat.zero_le _⟩ dX12_again_71 (fun v70 Z71 I72 L73 q74 => ?_)
      obtain ⟨rfl, r75, rfl, h⟩ := q74
      show jJ G 6 74 [(0, .ref v0), (1, .int v1), (2, .int v2)] [.int r75, .int v2, .ref b69] Z I72 L73 0 0
      obtain ⟨o76, h⟩ := h
      refine j_iast E kb69 (by rw [lb69]; exact o76) dX12_again_74 ?_
      refine j_nmI (fun I77 eI77 => ?_)
      have h := h I77 eI77
      obtain ⟨x78, ex78⟩ : ∃ y : Int32, y = v2 + 1 := ⟨_, rfl⟩
      have h := h x78 ex78
      refine j_iinc E x78 [(2, .int x78), (0, .ref v0), (1, .int v1)] dX12_again_75 2 rfl (by rw [ex78]; rfl) (by decide) rfl ?_
      refine j_goto E 49 dX12_again_78 (by decide) ?_
      refine j_sub [1, 2, 0] rfl ?_
      exact hK49 v0 v1 x78 I77 L73 kv0 h
set_option maxRecDepth 100000 in
def f_X12_again (v0 : Nat) (v1 : Int32) (Z : jZ) (I : jI) (L : jL) (Q : Int32 → jI → jL → Prop) : Prop := (∀ I79 : jI, I79 = jpI I v0 22 (0 : Int32) → (f_X12_in v1 (0 : Int32) (1 : Int32) Z I79 L (fun r85 I82 L83 => ((r85 = 0 → Q (0 : Int32) I82 L83) ∧ (¬ (r85 = 0) → (∀ b87 : Nat, jr Z v0 63 = some b87 → (vp_in v1 2 ∧ (((I82 b87 v1.toNatClampNeg) = 0 → Q (0 : Int32) I82 L83) ∧ (¬ ((I82 b87 v1.toNatClampNeg) = 0) → (∀ b90 : Nat, jr Z v0 64 = some b90 → (vp_in v1 2 ∧ (((I82 b90 v1.toNatClampNeg) = (I82 v0 7) → (∀ I93 : jI, I93 = jpI I82 v0 66 ((266 : Int32) * v1) → (∃ m49 : Nat, f_X12_again_L49  Z Q m49 v0 v1 (0 : Int32) I93 L83))) ∧ (¬ ((I82 b90 v1.toNatClampNeg) = (I82 v0 7)) → Q (0 : Int32) I82 L83)))))))))))))
set_option maxHeartbeats 4000000 in
set_option maxRecDepth 100000 in
theorem c_X12_again (l : Launch) (D : va_G) (cy : jC) (v0 : Nat) (v1 : Int32) (Z : jZ) (I : jI) (L : jL) (Q : Int32 → jI → jL → Prop) (hZ : SH Z) (kv0 : jk Z v0 12) (h : f_X12_again v0 v1 Z I L Q) : jCt l yX12_again w_X12_again { frames := 1, cells := 0, slots := 0, locals := 22 } D cy [.ref v0, .int v1] Z I L (rtZ Z Q) := by
  refine jCt_of (cc := cX12_again) (maxL := 6) (ret := (some .boolean)) (by decide +kernel) rfl (Nat.le_of_ble_eq_true rfl) ?_
  intro G eD eY eL E
  subst eD; subst eY; subst eL
  have E : jE G cX12_again RX12 w_X12_again 6 (some .boolean) { frames := 1, cells := 0, slots := 0, locals := 22 } (rtZ Z Q) := E
  show jJ G 6 0 [(0, .ref v0), (1, .int v1)] [] Z I L 0 0
  refine j_aload_n E dX12_again_0 0 rfl ?_
  refine j_iconst E (v := 0) dX12_again_1 (by decide) ?_
  refine j_puti E 12 22 rfl rfl (by decide) (by decide) (iw iT_12) tyX12_ok nmX12 rfl rfl (tw W_674) rfl rfl rfl kv0 dX12_again_2 ?_
  refine j_nmI (fun I79 eI79 => ?_)
  have h := h I79 eI79
  refine j_iload_n E dX12_again_5 1 rfl ?_
  refine j_iconst E (v := 0) dX12_again_6 (by decide) ?_
  refine j_iconst E (v := 1) dX12_again_7 (by decide) ?_
  refine j_callS E [.int v1, .int (0 : Int32), .int (1 : Int32)] [] (c_X12_in (gL G) (gD G) (gY G) v1 (0 : Int32) (1 : Int32) Z I79 L _ hZ  h) (gwS W_680 W_681 W_679 W_678) rfl fy_X12_in ⟨by decide, by decide⟩ rfl rfl (Nat.le_of_ble_eq_true rfl) ⟨Nat.zero_le _, Nat.zero_le _⟩ dX12_again_8 (fun v80 Z81 I82 L83 q84 => ?_)
  obtain ⟨rfl, r85, rfl, zr85, h⟩ := q84
  show jJ G 6 11 [(0, .ref v0), (1, .int v1)] [.int r85] Z I82 L83 0 0
  refine j_if_eq E 36 dX12_again_11 (by decide) (fun c86 => ?_) (fun c86 => ?_)
  · have h := h.1 c86
    refine j_iconst E (v := 0) dX12_again_36 (by decide) ?_
    exact j_zreturn E (Or.inl rfl) ⟨rfl, _, rfl, (Or.inl rfl), h⟩ (Nat.zero_le _) (Nat.zero_le _) dX12_again_37
  · have h := h.2 c86
    refine j_aload_n E dX12_again_14 0 rfl ?_
    obtain ⟨b87, eb87, kb87, lb87⟩ := sh_f hZ kv0 (j := 63) (k := 16) (m := 2) rfl
    have h := h b87 eb87
    refine j_getr E 12 63 rfl rfl (by decide) (by decide) (iw iT_12) rfl rfl (tw W_905) kv0 eb87 dX12_again_15 ?_
    refine j_iload_n E dX12_again_18 1 rfl ?_
    obtain ⟨o88, h⟩ := h
    refine j_zald E kb87 (by rw [lb87]; exact o88) dX12_again_19 ?_
    refine j_if_eq E 36 dX12_again_20 (by decide) (fun c89 => ?_) (fun c89 => ?_)
    · have h := h.1 c89
      refine j_iconst E (v := 0) dX12_again_36 (by decide) ?_
      exact j_zreturn E (Or.inl rfl) ⟨rfl, _, rfl, (Or.inl rfl), h⟩ (Nat.zero_le _) (Nat.zero_le _) dX12_again_37
    · have h := h.2 c89
      refine j_aload_n E dX12_again_23 0 rfl ?_
      obtain ⟨b90, eb90, kb90, lb90⟩ := sh_f hZ kv0 (j := 64) (k := 14) (m := 2) rfl
      have h := h b90 eb90
      refine j_getr E 12 64 rfl rfl (by decide) (by decide) (iw iT_12) rfl rfl (tw W_906) kv0 eb90 dX12_again_24 ?_
      refine j_iload_n E dX12_again_27 1 rfl ?_
      obtain ⟨o91, h⟩ := h
      refine j_iald E kb90 (by rw [lb90]; exact o91) dX12_again_28 ?_
      refine j_aload_n E dX12_again_29 0 rfl ?_
      refine j_geti E 12 7 rfl rfl (by decide) (by decide) (iw iT_12) rfl rfl (tw W_723) kv0 dX12_again_30 ?_
      refine j_icmp_eq E 38 dX12_again_33 (by decide) (fun c92 => ?_) (fun c92 => ?_)
      · have h := h.1 c92
        refine j_aload_n E dX12_again_38 0 rfl ?_
        refine j_sipush E (v := 266) dX12_again_39 (by decide) ?_
        refine j_iload_n E dX12_again_42 1 rfl ?_
        refine j_imul E dX12_again_43 ?_
        refine j_puti E 12 66 rfl rfl (by decide) (by decide) (iw iT_12) tyX12_ok nmX12 rfl rfl (tw W_900) rfl rfl rfl kv0 dX12_again_44 ?_
        refine j_nmI (fun I93 eI93 => ?_)
        have h := h I93 eI93
        refine j_iconst E (v := 0) dX12_again_47 (by decide) ?_
        refine j_istore_n E 2 [(2, .int (0 : Int32)), (0, .ref v0), (1, .int v1)] dX12_again_48 rfl (by decide) rfl ?_
        obtain ⟨n94, h⟩ := h
        refine j_sub [1, 2, 0] rfl ?_
        exact m_X12_again_L49 E hZ  n94 v0 v1 (0 : Int32) I93 L83 kv0 h
      · have h := h.2 c92
        refine j_iconst E (v := 0) dX12_again_36 (by decide) ?_
        exact j_zreturn E (Or.inl rfl) ⟨rfl, _, rfl, (Or.inl rfl), h⟩ (Nat.zero_le _) (Nat.zero_le _) dX12_again_37
set_option maxRecDepth 100000 in
def f_X12_count_b94  (Z : jZ) (Q : Int32 → jI → jL → Prop) (s0 : Int32) (s1 : Int32) (I : jI) (L : jL) : Prop := Q (s0 + s1) I L
set_option maxHeartbeats 4000000 in
set_option maxRecDepth 100000 in
theorem m_X12_count_b94 {G : jG} {Z : jZ} {Q : Int32 → jI → jL → Prop} (E : jE G cX12_count RX12 w_X12_count 5 (some .int) { frames := 0, cells := 0, slots := 0, locals := 0 } (rtI Z Q)) (hZ : SH Z)  (s0 : Int32) (s1 : Int32) (I : jI) (L : jL)  (h : f_X12_count_b94  Z Q s0 s1 I L) : jJ G 5 94 [] [.int s1, .int s0] Z I L 0 0 := by
  refine j_iadd E dX12_count_94 ?_
  exact j_ireturn E ⟨rfl, _, rfl, h⟩ (Nat.zero_le _) (Nat.zero_le _) dX12_count_95
set_option maxRecDepth 100000 in
def f_X12_count_b80  (Z : jZ) (Q : Int32 → jI → jL → Prop) (v0 : Nat) (s0 : Int32) (I : jI) (L : jL) : Prop := (∀ b1 : Nat, jr Z v0 30 = some b1 → (((I b1 (1 : Int32).toNatClampNeg) ≤ 0 → f_X12_count_b94  Z Q s0 (0 : Int32) I L) ∧ (¬ ((I b1 (1 : Int32).toNatClampNeg) ≤ 0) → f_X12_count_b94  Z Q s0 (2 : Int32) I L)))
set_option maxHeartbeats 4000000 in
set_option maxRecDepth 100000 in
theorem m_X12_count_b80 {G : jG} {Z : jZ} {Q : Int32 → jI → jL → Prop} (E : jE G cX12_count RX12 w_X12_count 5 (some .int) { frames := 0, cells := 0, slots := 0, locals := 0 } (rtI Z Q)) (hZ : SH Z)  (v0 : Nat) (s0 : Int32) (I : jI) (L : jL) (kv0 : jk Z v0 12) (h : f_X12_count_b80  Z Q v0 s0 I L) : jJ G 5 80 [(0, .ref v0)] [.int s0] Z I L 0 0 := by
  refine j_aload_n E dX12_count_80 0 rfl ?_
  obtain ⟨b1, eb1, kb1, lb1⟩ := sh_f hZ kv0 (j := 30) (k := 14) (m := 2) rfl
  have h := h b1 eb1
  refine j_getr E 12 30 rfl rfl (by decide) (by decide) (iw iT_12) rfl rfl (tw W_745) kv0 eb1 dX12_count_81 ?_
  refine j_iconst E (v := 1) dX12_count_84 (by decide) ?_
  refine j_iald E kb1 (by rw [lb1]; exact vp_in_lit (by decide)) dX12_count_85 ?_
  refine j_if_le E 93 dX12_count_86 (by decide) (fun c2 => ?_) (fun c2 => ?_)
  · have h := h.1 c2
    refine j_iconst E (v := 0) dX12_count_93 (by decide) ?_
    refine j_sub [] rfl ?_
    exact m_X12_count_b94 E hZ  s0 (0 : Int32) I L  h
  · have h := h.2 c2
    refine j_iconst E (v := 2) dX12_count_89 (by decide) ?_
    refine j_goto E 94 dX12_count_90 (by decide) ?_
    refine j_sub [] rfl ?_
    exact m_X12_count_b94 E hZ  s0 (2 : Int32) I L  h
set_option maxRecDepth 100000 in
def f_X12_count_L103  (Z : jZ) (Q : Int32 → jI → jL → Prop) : Nat → Nat → Int32 → Int32 → jI → jL → Prop
  | 0 => fun _ _ _ _ _ => False
  | n + 1 => fun v0 v2 v3 I L => (((8 : Int32) ≤ v3 → Q v2 I L) ∧ (¬ ((8 : Int32) ≤ v3) → (∀ b4 : Nat, jr Z v0 17 = some b4 → (vp_in v3 8 ∧ (∀ x6 : Int32, x6 = (v2 + (I b4 v3.toNatClampNeg)) → (∀ x7 : Int32, x7 = v3 + 1 → (f_X12_count_L103 Z Q n) v0 x6 x7 I L))))))
set_option maxHeartbeats 4000000 in
set_option maxRecDepth 100000 in
theorem m_X12_count_L103 {G : jG} {Z : jZ} {Q : Int32 → jI → jL → Prop} (E : jE G cX12_count RX12 w_X12_count 5 (some .int) { frames := 0, cells := 0, slots := 0, locals := 0 } (rtI Z Q)) (hZ : SH Z)  : ∀ (n : Nat) (v0 : Nat) (v2 : Int32) (v3 : Int32) (I : jI) (L : jL), jk Z v0 12 → f_X12_count_L103  Z Q n v0 v2 v3 I L → jJ G 5 103 [(0, .ref v0), (2, .int v2), (3, .int v3)] [] Z I L 0 0 := by
  intro n
  induction n with
  | zero => intro v0 v2 v3 I L _ h; exact h.elim
  | succ n ih =>
    intro v0 v2 v3 I L kv0 h
    have h : (((8 : Int32) ≤ v3 → Q v2 I L) ∧ (¬ ((8 : Int32) ≤ v3) → (∀ b4 : Nat, jr Z v0 17 = some b4 → (vp_in v3 8 ∧ (∀ x6 : Int32, x6 = (v2 + (I b4 v3.toNatClampNeg)) → (∀ x7 : Int32, x7 = v3 + 1 → (f_X12_count_L103 Z Q n) v0 x6 x7 I L)))))) := h
    obtain ⟨K103, eK103⟩ : ∃ K : Nat → Int32 → Int32 → jI → jL → Prop, K = f_X12_count_L103  Z Q n := ⟨_, rfl⟩
    have hK103 := ih
    clear eK103 K103
    generalize f_X12_count_L103  Z Q n = K103 at hK103 h
    refine j_iload_n E dX12_count_103 2 rfl ?_
    refine j_bipush E (v := 8) dX12_count_104 (by decide) ?_
    refine j_icmp_ge E 124 dX12_count_106 (by decide) (fun c3 => ?_) (fun c3 => ?_)
    · have h := h.1 c3
      refine j_iload_n E dX12_count_124 1 rfl ?_
      exact j_ireturn E ⟨rfl, _, rfl, h⟩ (Nat.zero_le _) (Nat.zero_le _) dX12_count_125
    · have h := h.2 c3
      refine j_iload_n E dX12_count_109 1 rfl ?_
      refine j_aload_n E dX12_count_110 0 rfl ?_
      obtain ⟨b4, eb4, kb4, lb4⟩ := sh_f hZ kv0 (j := 17) (k := 14) (m := 8) rfl
      have h := h b4 eb4
      refine j_getr E 12 17 rfl rfl (by decide) (by decide) (iw iT_12) rfl rfl (tw W_721) kv0 eb4 dX12_count_111 ?_
      refine j_iload_n E dX12_count_114 2 rfl ?_
      obtain ⟨o5, h⟩ := h
      refine j_iald E kb4 (by rw [lb4]; exact o5) dX12_count_115 ?_
      refine j_iadd E dX12_count_116 ?_
      refine j_topi (fun x6 ex6 => ?_)
      have h := h x6 ex6
      refine j_istore_n E 2 [(2, .int x6), (0, .ref v0), (3, .int v3)] dX12_count_117 rfl (by decide) rfl ?_
      obtain ⟨x7, ex7⟩ : ∃ y : Int32, y = v3 + 1 := ⟨_, rfl⟩
      have h := h x7 ex7
      refine j_iinc E x7 [(3, .int x7), (2, .int x6), (0, .ref v0)] dX12_count_118 2 rfl (by rw [ex7]; rfl) (by decide) rfl ?_
      refine j_goto E 103 dX12_count_121 (by decide) ?_
      refine j_sub [2, 1, 0] rfl ?_
      exact hK103 v0 x6 x7 I L kv0 h
set_option maxRecDepth 100000 in
def f_X12_count_b164 (K128 : Nat → Int32 → Int32 → jI → jL → Prop) (K137 : Nat → Int32 → Int32 → Int32 → jI → jL → Prop) (Z : jZ) (Q : Int32 → jI → jL → Prop) (v0 : Nat) (v3 : Int32) (v4 : Int32) (s0 : Int32) (s1 : Int32) (I : jI) (L : jL) : Prop := (∀ x8 : Int32, x8 = (s0 + s1) → (∀ x9 : Int32, x9 = v4 + 1 → K137 v0 x8 v3 x9 I L))
set_option maxHeartbeats 4000000 in
set_option maxRecDepth 100000 in
theorem m_X12_count_b164 {G : jG} {Z : jZ} {Q : Int32 → jI → jL → Prop} (E : jE G cX12_count RX12 w_X12_count 5 (some .int) { frames := 0, cells := 0, slots := 0, locals := 0 } (rtI Z Q)) (hZ : SH Z) (K128 : Nat → Int32 → Int32 → jI → jL → Prop) (hK128 : ∀ (v0 : Nat) (v2 : Int32) (v3 : Int32) (I : jI) (L : jL), jk Z v0 12 → K128 v0 v2 v3 I L → jJ G 5 128 [(0, .ref v0), (2, .int v2), (3, .int v3)] [] Z I L 0 0) (K137 : Nat → Int32 → Int32 → Int32 → jI → jL → Prop) (hK137 : ∀ (v0 : Nat) (v2 : Int32) (v3 : Int32) (v4 : Int32) (I : jI) (L : jL), jk Z v0 12 → K137 v0 v2 v3 v4 I L → jJ G 5 137 [(0, .ref v0), (2, .int v2), (3, .int v3), (4, .int v4)] [] Z I L 0 0) (v0 : Nat) (v3 : Int32) (v4 : Int32) (s0 : Int32) (s1 : Int32) (I : jI) (L : jL) (kv0 : jk Z v0 12) (h : f_X12_count_b164 K128 K137 Z Q v0 v3 v4 s0 s1 I L) : jJ G 5 164 [(0, .ref v0), (3, .int v3), (4, .int v4)] [.int s1, .int s0] Z I L 0 0 := by
  refine j_iadd E dX12_count_164 ?_
  refine j_topi (fun x8 ex8 => ?_)
  have h := h x8 ex8
  refine j_istore_n E 2 [(2, .int x8), (0, .ref v0), (3, .int v3), (4, .int v4)] dX12_count_165 rfl (by decide) rfl ?_
  obtain ⟨x9, ex9⟩ : ∃ y : Int32, y = v4 + 1 := ⟨_, rfl⟩
  have h := h x9 ex9
  refine j_iinc E x9 [(4, .int x9), (2, .int x8), (0, .ref v0), (3, .int v3)] dX12_count_166 3 rfl (by rw [ex9]; rfl) (by decide) rfl ?_
  refine j_goto E 137 dX12_count_169 (by decide) ?_
  refine j_sub [2, 1, 3, 0] rfl ?_
  exact hK137 v0 x8 v3 x9 I L kv0 h
set_option maxRecDepth 100000 in
def f_X12_count_L137 (K128 : Nat → Int32 → Int32 → jI → jL → Prop) (Z : jZ) (Q : Int32 → jI → jL → Prop) : Nat → Nat → Int32 → Int32 → Int32 → jI → jL → Prop
  | 0 => fun _ _ _ _ _ _ => False
  | n + 1 => fun v0 v2 v3 v4 I L => ((v3 ≤ v4 → (∀ x11 : Int32, x11 = v3 + 1 → K128 v0 v2 x11 I L)) ∧ (¬ (v3 ≤ v4) → (∀ b12 : Nat, jr Z v0 6 = some b12 → (vp_in (((8 : Int32) * v3) + v4) 64 ∧ (((I b12 (((8 : Int32) * v3) + v4).toNatClampNeg) = 0 → f_X12_count_b164 K128 (f_X12_count_L137 K128 Z Q n) Z Q v0 v3 v4 v2 (0 : Int32) I L) ∧ (¬ ((I b12 (((8 : Int32) * v3) + v4).toNatClampNeg) = 0) → f_X12_count_b164 K128 (f_X12_count_L137 K128 Z Q n) Z Q v0 v3 v4 v2 (1 : Int32) I L))))))
set_option maxHeartbeats 4000000 in
set_option maxRecDepth 100000 in
theorem m_X12_count_L137 {G : jG} {Z : jZ} {Q : Int32 → jI → jL → Prop} (E : jE G cX12_count RX12 w_X12_count 5 (some .int) { frames := 0, cells := 0, slots := 0, locals := 0 } (rtI Z Q)) (hZ : SH Z) (K128 : Nat → Int32 → Int32 → jI → jL → Prop) (hK128 : ∀ (v0 : Nat) (v2 : Int32) (v3 : Int32) (I : jI) (L : jL), jk Z v0 12 → K128 v0 v2 v3 I L → jJ G 5 128 [(0, .ref v0), (2, .int v2), (3, .int v3)] [] Z I L 0 0) : ∀ (n : Nat) (v0 : Nat) (v2 : Int32) (v3 : Int32) (v4 : Int32) (I : jI) (L : jL), jk Z v0 12 → f_X12_count_L137 K128 Z Q n v0 v2 v3 v4 I L → jJ G 5 137 [(0, .ref v0), (2, .int v2), (3, .int v3), (4, .int v4)] [] Z I L 0 0 := by
  intro n
  induction n with
  | zero => intro v0 v2 v3 v4 I L _ h; exact h.elim
  | succ n ih =>
    intro v0 v2 v3 v4 I L kv0 h
    have h : ((v3 ≤ v4 → (∀ x11 : Int32, x11 = v3 + 1 → K128 v0 v2 x11 I L)) ∧ (¬ (v3 ≤ v4) → (∀ b12 : Nat, jr Z v0 6 = some b12 → (vp_in (((8 : Int32) * v3) + v4) 64 ∧ (((I b12 (((8 : Int32) * v3) + v4).toNatClampNeg) = 0 → f_X12_count_b164 K128 (f_X12_count_L137 K128 Z Q n) Z Q v0 v3 v4 v2 (0 : Int32) I L) ∧ (¬ ((I b12 (((8 : Int32) * v3) + v4).toNatClampNeg) = 0) → f_X12_count_b164 K128 (f_X12_count_L137 K128 Z Q n) Z Q v0 v3 v4 v2 (1 : Int32) I L)))))) := h
    obtain ⟨K137, eK137⟩ : ∃ K : Nat → Int32 → Int32 → Int32 → jI → jL → Prop, K = f_X12_count_L137 K128 Z Q n := ⟨_, rfl⟩
    have hK137 := ih
    clear eK137 K137
    generalize f_X12_count_L137 K128 Z Q n = K137 at hK137 h
    refine j_iload E dX12_count_137 3 rfl ?_
    refine j_iload_n E dX12_count_139 2 rfl ?_
    refine j_icmp_ge E 172 dX12_count_140 (by decide) (fun c10 => ?_) (fun c10 => ?_)
    · have h := h.1 c10
      obtain ⟨x11, ex11⟩ : ∃ y : Int32, y = v3 + 1 := ⟨_, rfl⟩
      have h := h x11 ex11
      refine j_iinc E x11 [(3, .int x11), (0, .ref v0), (2, .int v2), (4, .int v4)] dX12_count_172 2 rfl (by rw [ex11]; rfl) (by decide) rfl ?_
      refine j_goto E 128 dX12_count_175 (by decide) ?_
      refine j_sub [1, 2, 0] rfl ?_
      exact hK128 v0 v2 x11 I L kv0 h
    · have h := h.2 c10
      refine j_iload_n E dX12_count_143 1 rfl ?_
      refine j_aload_n E dX12_count_144 0 rfl ?_
      obtain ⟨b12, eb12, kb12, lb12⟩ := sh_f hZ kv0 (j := 6) (k := 16) (m := 64) rfl
      have h := h b12 eb12
      refine j_getr E 12 6 rfl rfl (by decide) (by decide) (iw iT_12) rfl rfl (tw W_739) kv0 eb12 dX12_count_145 ?_
      refine j_bipush E (v := 8) dX12_count_148 (by decide) ?_
      refine j_iload_n E dX12_count_150 2 rfl ?_
      refine j_imul E dX12_count_151 ?_
      refine j_iload E dX12_count_152 3 rfl ?_
      refine j_iadd E dX12_count_154 ?_
      obtain ⟨o13, h⟩ := h
      refine j_zald E kb12 (by rw [lb12]; exact o13) dX12_count_155 ?_
      refine j_if_eq E 163 dX12_count_156 (by decide) (fun c14 => ?_) (fun c14 => ?_)
      · have h := h.1 c14
        refine j_iconst E (v := 0) dX12_count_163 (by decide) ?_
        refine j_sub [0, 2, 3] rfl ?_
        exact m_X12_count_b164 E hZ K128 hK128 K137 hK137 v0 v3 v4 v2 (0 : Int32) I L kv0 h
      · have h := h.2 c14
        refine j_iconst E (v := 1) dX12_count_159 (by decide) ?_
        refine j_goto E 164 dX12_count_160 (by decide) ?_
        refine j_sub [0, 2, 3] rfl ?_
        exact m_X12_count_b164 E hZ K128 hK128 K137 hK137 v0 v3 v4 v2 (1 : Int32) I L kv0 h
set_option maxRecDepth 100000 in
def f_X12_count_L128  (Z : jZ) (Q : Int32 → jI → jL → Prop) : Nat → Nat → Int32 → Int32 → jI → jL → Prop
  | 0 => fun _ _ _ _ _ => False
  | n + 1 => fun v0 v2 v3 I L => (((8 : Int32) ≤ v3 → Q v2 I L) ∧ (¬ ((8 : Int32) ≤ v3) → (∃ m137 : Nat, f_X12_count_L137 (f_X12_count_L128 Z Q n) Z Q m137 v0 v2 v3 (0 : Int32) I L)))
set_option maxHeartbeats 4000000 in
set_option maxRecDepth 100000 in
theorem m_X12_count_L128 {G : jG} {Z : jZ} {Q : Int32 → jI → jL → Prop} (E : jE G cX12_count RX12 w_X12_count 5 (some .int) { frames := 0, cells := 0, slots := 0, locals := 0 } (rtI Z Q)) (hZ : SH Z)  : ∀ (n : Nat) (v0 : Nat) (v2 : Int32) (v3 : Int32) (I : jI) (L : jL), jk Z v0 12 → f_X12_count_L128  Z Q n v0 v2 v3 I L → jJ G 5 128 [(0, .ref v0), (2, .int v2), (3, .int v3)] [] Z I L 0 0 := by
  intro n
  induction n with
  | zero => intro v0 v2 v3 I L _ h; exact h.elim
  | succ n ih =>
    intro v0 v2 v3 I L kv0 h
    have h : (((8 : Int32) ≤ v3 → Q v2 I L) ∧ (¬ ((8 : Int32) ≤ v3) → (∃ m137 : Nat, f_X12_count_L137 (f_X12_count_L128 Z Q n) Z Q m137 v0 v2 v3 (0 : Int32) I L))) := h
    obtain ⟨K128, eK128⟩ : ∃ K : Nat → Int32 → Int32 → jI → jL → Prop, K = f_X12_count_L128  Z Q n := ⟨_, rfl⟩
    have hK128 := ih
    clear eK128 K128
    generalize f_X12_count_L128  Z Q n = K128 at hK128 h
    refine j_iload_n E dX12_count_128 2 rfl ?_
    refine j_bipush E (v := 8) dX12_count_129 (by decide) ?_
    refine j_icmp_ge E 178 dX12_count_131 (by decide) (fun c15 => ?_) (fun c15 => ?_)
    · have h := h.1 c15
      refine j_iload_n E dX12_count_178 1 rfl ?_
      exact j_ireturn E ⟨rfl, _, rfl, h⟩ (Nat.zero_le _) (Nat.zero_le _) dX12_count_179
    · have h := h.2 c15
      refine j_iconst E (v := 0) dX12_count_134 (by decide) ?_
      refine j_istore E 4 [(4, .int (0 : Int32)), (0, .ref v0), (2, .int v2), (3, .int v3)] dX12_count_135 (by decide) rfl ?_
      obtain ⟨n16, h⟩ := h
      refine j_sub [1, 2, 3, 0] rfl ?_
      exact m_X12_count_L137 E hZ K128 hK128 n16 v0 v2 v3 (0 : Int32) I L kv0 h
set_option maxRecDepth 100000 in
def f_X12_count (v0 : Nat) (v1 : Int32) (Z : jZ) (I : jI) (L : jL) (Q : Int32 → jI → jL → Prop) : Prop := (∀ I17 : jI, I17 = jpI I v0 22 (0 : Int32) → ((v1 = 0 → Q (I17 v0 0) I17 L) ∧ (¬ v1 = 0 → ((v1 = 1 → Q (I17 v0 8) I17 L) ∧ (¬ v1 = 1 → ((v1 = 2 → (∀ b21 : Nat, jr Z v0 30 = some b21 → (((I17 b21 (0 : Int32).toNatClampNeg) ≤ 0 → f_X12_count_b80  Z Q v0 (0 : Int32) I17 L) ∧ (¬ ((I17 b21 (0 : Int32).toNatClampNeg) ≤ 0) → f_X12_count_b80  Z Q v0 (1 : Int32) I17 L)))) ∧ (¬ v1 = 2 → ((v1 = 3 → Q (I17 v0 52) I17 L) ∧ (¬ v1 = 3 → ((v1 = 4 → (∃ m103 : Nat, f_X12_count_L103  Z Q m103 v0 (0 : Int32) (0 : Int32) I17 L)) ∧ (¬ v1 = 4 → ((v1 = 5 → (∃ m128 : Nat, f_X12_count_L128  Z Q m128 v0 (0 : Int32) (0 : Int32) I17 L)) ∧ (¬ v1 = 5 → ((v1 = 6 → Q (I17 v0 21) I17 L) ∧ (¬ v1 = 6 → ((v1 = 7 → Q (I17 v0 19) I17 L) ∧ (¬ v1 = 7 → Q (-1 : Int32) I17 L)))))))))))))))))
set_option maxHeartbeats 4000000 in
set_option maxRecDepth 100000 in
theorem c_X12_count (l : Launch) (D : va_G) (cy : jC) (v0 : Nat) (v1 : Int32) (Z : jZ) (I : jI) (L : jL) (Q : Int32 → jI → jL → Prop) (hZ : SH Z) (kv0 : jk Z v0 12) (h : f_X12_count v0 v1 Z I L Q) : jCt l yX12_count w_X12_count { frames := 0, cells := 0, slots := 0, locals := 0 } D cy [.ref v0, .int v1] Z I L (rtI Z Q) := by
  refine jCt_of (cc := cX12_count) (maxL := 5) (ret := (some .int)) (by decide +kernel) rfl (Nat.le_of_ble_eq_true rfl) ?_
  intro G eD eY eL E
  subst eD; subst eY; subst eL
  have E : jE G cX12_count RX12 w_X12_count 5 (some .int) { frames := 0, cells := 0, slots := 0, locals := 0 } (rtI Z Q) := E
  show jJ G 5 0 [(0, .ref v0), (1, .int v1)] [] Z I L 0 0
  refine j_aload_n E dX12_count_0 0 rfl ?_
  refine j_iconst E (v := 0) dX12_count_1 (by decide) ?_
  refine j_puti E 12 22 rfl rfl (by decide) (by decide) (iw iT_12) tyX12_ok nmX12 rfl rfl (tw W_674) rfl rfl rfl kv0 dX12_count_2 ?_
  refine j_nmI (fun I17 eI17 => ?_)
  have h := h I17 eI17
  refine j_iconst E (v := 0) dX12_count_5 (by decide) ?_
  refine j_istore_n E 2 [(2, .int (0 : Int32)), (0, .ref v0), (1, .int v1)] dX12_count_6 rfl (by decide) rfl ?_
  refine j_iload_n E dX12_count_7 2 rfl ?_
  by_cases c18 : v1 = 0
  · have h := h.1 c18
    refine j_tableIn E (48) 56 dX12_count_8 (by rw [c18]; decide) (by rw [c18]; decide) (by rw [c18]; rfl) (by decide) ?_
    refine j_aload_n E dX12_count_56 1 rfl ?_
    refine j_geti E 12 0 rfl rfl (by decide) (by decide) (iw iT_12) rfl rfl (tw W_677) kv0 dX12_count_57 ?_
    exact j_ireturn E ⟨rfl, _, rfl, h⟩ (Nat.zero_le _) (Nat.zero_le _) dX12_count_60
  · have h := h.2 c18
    by_cases c19 : v1 = 1
    · have h := h.1 c19
      refine j_tableIn E (53) 61 dX12_count_8 (by rw [c19]; decide) (by rw [c19]; decide) (by rw [c19]; rfl) (by decide) ?_
      refine j_aload_n E dX12_count_61 1 rfl ?_
      refine j_geti E 12 8 rfl rfl (by decide) (by decide) (iw iT_12) rfl rfl (tw W_682) kv0 dX12_count_62 ?_
      exact j_ireturn E ⟨rfl, _, rfl, h⟩ (Nat.zero_le _) (Nat.zero_le _) dX12_count_65
    · have h := h.2 c19
      by_cases c20 : v1 = 2
      · have h := h.1 c20
        refine j_tableIn E (58) 66 dX12_count_8 (by rw [c20]; decide) (by rw [c20]; decide) (by rw [c20]; rfl) (by decide) ?_
        refine j_aload_n E dX12_count_66 1 rfl ?_
        obtain ⟨b21, eb21, kb21, lb21⟩ := sh_f hZ kv0 (j := 30) (k := 14) (m := 2) rfl
        have h := h b21 eb21
        refine j_getr E 12 30 rfl rfl (by decide) (by decide) (iw iT_12) rfl rfl (tw W_745) kv0 eb21 dX12_count_67 ?_
        refine j_iconst E (v := 0) dX12_count_70 (by decide) ?_
        refine j_iald E kb21 (by rw [lb21]; exact vp_in_lit (by decide)) dX12_count_71 ?_
        refine j_if_le E 79 dX12_count_72 (by decide) (fun c22 => ?_) (fun c22 => ?_)
        · have h := h.1 c22
          refine j_iconst E (v := 0) dX12_count_79 (by decide) ?_
          refine j_sub [1] rfl ?_
          exact m_X12_count_b80 E hZ  v0 (0 : Int32) I17 L kv0 h
        · have h := h.2 c22
          refine j_iconst E (v := 1) dX12_count_75 (by decide) ?_
          refine j_goto E 80 dX12_count_76 (by decide) ?_
          refine j_sub [1] rfl ?_
          exact m_X12_count_b80 E hZ  v0 (1 : Int32) I17 L kv0 h
      · have h := h.2 c20
        by_cases c23 : v1 = 3
        · have h := h.1 c23
          refine j_tableIn E (88) 96 dX12_count_8 (by rw [c23]; decide) (by rw [c23]; decide) (by rw [c23]; rfl) (by decide) ?_
          refine j_aload_n E dX12_count_96 1 rfl ?_
          refine j_geti E 12 52 rfl rfl (by decide) (by decide) (iw iT_12) rfl rfl (tw W_724) kv0 dX12_count_97 ?_
          exact j_ireturn E ⟨rfl, _, rfl, h⟩ (Nat.zero_le _) (Nat.zero_le _) dX12_count_100
        · have h := h.2 c23
          by_cases c24 : v1 = 4
          · have h := h.1 c24
            refine j_tableIn E (93) 101 dX12_count_8 (by rw [c24]; decide) (by rw [c24]; decide) (by rw [c24]; rfl) (by decide) ?_
            refine j_iconst E (v := 0) dX12_count_101 (by decide) ?_
            refine j_istore_n E 3 [(3, .int (0 : Int32)), (2, .int (0 : Int32)), (0, .ref v0), (1, .int v1)] dX12_count_102 rfl (by decide) rfl ?_
            obtain ⟨n25, h⟩ := h
            refine j_sub [2, 1, 0] rfl ?_
            exact m_X12_count_L103 E hZ  n25 v0 (0 : Int32) (0 : Int32) I17 L kv0 h
          · have h := h.2 c24
            by_cases c26 : v1 = 5
            · have h := h.1 c26
              refine j_tableIn E (118) 126 dX12_count_8 (by rw [c26]; decide) (by rw [c26]; decide) (by rw [c26]; rfl) (by decide) ?_
              refine j_iconst E (v := 0) dX12_count_126 (by decide) ?_
              refine j_istore_n E 3 [(3, .int (0 : Int32)), (2, .int (0 : Int32)), (0, .ref v0), (1, .int v1)] dX12_count_127 rfl (by decide) rfl ?_
              obtain ⟨n27, h⟩ := h
              refine j_sub [2, 1, 0] rfl ?_
              exact m_X12_count_L128 E hZ  n27 v0 (0 : Int32) (0 : Int32) I17 L kv0 h
            · have h := h.2 c26
              by_cases c28 : v1 = 6
              · have h := h.1 c28
                refine j_tableIn E (172) 180 dX12_count_8 (by rw [c28]; decide) (by rw [c28]; decide) (by rw [c28]; rfl) (by decide) ?_
                refine j_aload_n E dX12_count_180 1 rfl ?_
                refine j_geti E 12 21 rfl rfl (by decide) (by decide) (iw iT_12) rfl rfl (tw W_676) kv0 dX12_count_181 ?_
                exact j_ireturn E ⟨rfl, _, rfl, h⟩ (Nat.zero_le _) (Nat.zero_le _) dX12_count_184
              · have h := h.2 c28
                by_cases c29 : v1 = 7
                · have h := h.1 c29
                  refine j_tableIn E (177) 185 dX12_count_8 (by rw [c29]; decide) (by rw [c29]; decide) (by rw [c29]; rfl) (by decide) ?_
                  refine j_aload_n E dX12_count_185 1 rfl ?_
                  refine j_geti E 12 19 rfl rfl (by decide) (by decide) (iw iT_12) rfl rfl (tw W_684) kv0 dX12_count_186 ?_
                  exact j_ireturn E ⟨rfl, _, rfl, h⟩ (Nat.zero_le _) (Nat.zero_le _) dX12_count_189
                · have h := h.2 c29
                  refine j_tableOut E 190 dX12_count_8 (by have tc18 := lv_neT (k := 0) (a := 0) c18 rfl; have tc19 := lv_neT (k := 1) (a := 1) c19 rfl; have tc20 := lv_neT (k := 2) (a := 2) c20 rfl; have tc23 := lv_neT (k := 3) (a := 3) c23 rfl; have tc24 := lv_neT (k := 4) (a := 4) c24 rfl; have tc26 := lv_neT (k := 5) (a := 5) c26 rfl; have tc28 := lv_neT (k := 6) (a := 6) c28 rfl; have tc29 := lv_neT (k := 7) (a := 7) c29 rfl; omega) (by decide) ?_
                  refine j_iconst E (v := -1) dX12_count_190 (by decide) ?_
                  exact j_ireturn E ⟨rfl, _, rfl, h⟩ (Nat.zero_le _) (Nat.zero_le _) dX12_count_191
set_option maxRecDepth 100000 in
def f_X12_row (v0 : Nat) (v1 : Int32) (Z : jZ) (I : jI) (L : jL) (Q : Int64 → jI → jL → Prop) : Prop := (∀ I1 : jI, I1 = jpI I v0 22 (0 : Int32) → (f_X12_in v1 (0 : Int32) ((I1 v0 21) - (1 : Int32)) Z I1 L (fun r7 I4 L5 => ((r7 = 0 → (f_X12_lost v0 Z I4 L5 (fun r14 I11 L12 => Q (r14.toInt64) I11 L12))) ∧ (¬ (r7 = 0) → (∀ b15 : Nat, jr Z v0 20 = some b15 → (vp_in v1 40 ∧ Q (L5 b15 v1.toNatClampNeg) I4 L5)))))))
set_option maxHeartbeats 4000000 in
set_option maxRecDepth 100000 in
theorem c_X12_row (l : Launch) (D : va_G) (cy : jC) (v0 : Nat) (v1 : Int32) (Z : jZ) (I : jI) (L : jL) (Q : Int64 → jI → jL → Prop) (hZ : SH Z) (kv0 : jk Z v0 12) (h : f_X12_row v0 v1 Z I L Q) : jCt l yX12_row w_X12_row { frames := 1, cells := 0, slots := 0, locals := 22 } D cy [.ref v0, .int v1] Z I L (rtL Z Q) := by
  refine jCt_of (cc := cX12_row) (maxL := 2) (ret := (some .long)) (by decide +kernel) rfl (Nat.le_of_ble_eq_true rfl) ?_
  intro G eD eY eL E
  subst eD; subst eY; subst eL
  have E : jE G cX12_row RX12 w_X12_row 2 (some .long) { frames := 1, cells := 0, slots := 0, locals := 22 } (rtL Z Q) := E
  show jJ G 2 0 [(0, .ref v0), (1, .int v1)] [] Z I L 0 0
  refine j_aload_n E dX12_row_0 0 rfl ?_
  refine j_iconst E (v := 0) dX12_row_1 (by decide) ?_
  refine j_puti E 12 22 rfl rfl (by decide) (by decide) (iw iT_12) tyX12_ok nmX12 rfl rfl (tw W_674) rfl rfl rfl kv0 dX12_row_2 ?_
  refine j_nmI (fun I1 eI1 => ?_)
  have h := h I1 eI1
  refine j_iload_n E dX12_row_5 1 rfl ?_
  refine j_iconst E (v := 0) dX12_row_6 (by decide) ?_
  refine j_aload_n E dX12_row_7 0 rfl ?_
  refine j_geti E 12 21 rfl rfl (by decide) (by decide) (iw iT_12) rfl rfl (tw W_676) kv0 dX12_row_8 ?_
  refine j_iconst E (v := 1) dX12_row_11 (by decide) ?_
  refine j_isub E dX12_row_12 ?_
  refine j_callS E [.int v1, .int (0 : Int32), .int ((I1 v0 21) - (1 : Int32))] [] (c_X12_in (gL G) (gD G) (gY G) v1 (0 : Int32) ((I1 v0 21) - (1 : Int32)) Z I1 L _ hZ  h) (gwS W_680 W_681 W_679 W_678) rfl fy_X12_in ⟨by decide, by decide⟩ rfl rfl (Nat.le_of_ble_eq_true rfl) ⟨Nat.zero_le _, Nat.zero_le _⟩ dX12_row_13 (fun v2 Z3 I4 L5 q6 => ?_)
  obtain ⟨rfl, r7, rfl, zr7, h⟩ := q6
  show jJ G 2 16 [(0, .ref v0), (1, .int v1)] [.int r7] Z I4 L5 0 0
  refine j_if_eq E 28 dX12_row_16 (by decide) (fun c8 => ?_) (fun c8 => ?_)
  · have h := h.1 c8
    refine j_aload_n E dX12_row_28 0 rfl ?_
    refine j_callV E [] [] (c_X12_lost (gL G) (gD G) (gY G) v0 Z I4 L5 _ hZ kv0 h) (gwV W_748 W_749 W_750 W_679 W_747) rfl ⟨rfl, fy_X12_lost⟩ ⟨by decide, by decide⟩ (c := 12) rfl (by decide) kv0 rfl rfl (Nat.le_of_ble_eq_true rfl) ⟨Nat.zero_le _, Nat.zero_le _⟩ dX12_row_29 (fun v9 Z10 I11 L12 q13 => ?_)
    obtain ⟨rfl, r14, rfl, h⟩ := q13
    show jJ G 2 32 [(0, .ref v0), (1, .int v1)] [.int r14] Z I11 L12 0 0
    refine j_i2l E dX12_row_32 ?_
    exact j_lreturn E ⟨rfl, _, rfl, h⟩ (Nat.zero_le _) (Nat.zero_le _) dX12_row_33
  · have h := h.2 c8
    refine j_aload_n E dX12_row_19 0 rfl ?_
    obtain ⟨b15, eb15, kb15, lb15⟩ := sh_f hZ kv0 (j := 20) (k := 15) (m := 40) rfl
    have h := h b15 eb15
    refine j_getr E 12 20 rfl rfl (by decide) (by decide) (iw iT_12) rfl rfl (tw W_675) kv0 eb15 dX12_row_20 ?_
    refine j_iload_n E dX12_row_23 1 rfl ?_
    obtain ⟨o16, h⟩ := h
    refine j_lald E kb15 (by rw [lb15]; exact o16) dX12_row_24 ?_
    refine j_goto E 33 dX12_row_25 (by decide) ?_
    exact j_lreturn E ⟨rfl, _, rfl, h⟩ (Nat.zero_le _) (Nat.zero_le _) dX12_row_33
set_option maxRecDepth 100000 in
def f_L_step (v0 : Nat) (v1 : Int32) (v2 : Int32) (v3 : Nat) (Z : jZ) (I : jI) (L : jL) (Q : Int32 → jI → jL → Prop) : Prop := (f_X11_step v0 v1 v2 Z I L (fun r2 I3 L4 => (vp_in (0 : Int32) (jlen Z v3) ∧ (∀ L8 : jL, L8 = jpL L4 v3 (0 : Int32).toNatClampNeg (r2.toInt64) → Q (0 : Int32) I3 L8))) (fun I5 L6 => Q (1 : Int32) I5 L6))
set_option maxHeartbeats 4000000 in
set_option maxRecDepth 100000 in
theorem c_L_step (l : Launch) (hl0 : l.stackTraces = false) (D : va_G) (cy : jC) (v0 : Nat) (v1 : Int32) (v2 : Int32) (v3 : Nat) (Z : jZ) (I : jI) (L : jL) (Q : Int32 → jI → jL → Prop) (hZ : SH Z) (kv0 : jk Z v0 11) (kv3 : jk Z v3 15) (h : f_L_step v0 v1 v2 v3 Z I L Q) : jCtH l yL_step w_L_step { frames := 7, cells := 1, slots := 6, locals := 112 } D cy [.ref v0, .int v1, .int v2, .ref v3] Z I L (rtI Z Q) := by
  refine jCtH_of (cc := cL_step) (maxL := 5) (ret := (some .int)) (by decide +kernel) rfl (Nat.le_of_ble_eq_true rfl) ?_
  intro G eD eY eL E hV htb
  subst eD; subst eY; subst eL
  have E : jE G cL_step RL w_L_step 5 (some .int) { frames := 7, cells := 1, slots := 6, locals := 112 } (rtI Z Q) := E
  show jJ G 5 0 [(0, .ref v0), (1, .int v1), (2, .int v2), (3, .ref v3)] [] Z I L 0 0
  refine j_aload_n E dL_step_0 3 rfl ?_
  refine j_iconst E (v := 0) dL_step_1 (by decide) ?_
  refine j_aload_n E dL_step_2 0 rfl ?_
  refine j_iload_n E dL_step_3 1 rfl ?_
  refine j_iload_n E dL_step_4 2 rfl ?_
  refine j_callVX E hV (hh := (0, 10, 13, 13)) htb ⟨by decide, by decide⟩ (by decide) (tw W_916) [.int v1, .int v2] [.int (0 : Int32), .ref v3] (c_X11_step (gL G) hl0 (gD G) (gY G) v0 v1 v2 Z I L _ _ hZ kv0 h) (gwV W_913 W_914 W_915 W_28 W_912) rfl ⟨rfl, fy_X11_step⟩ ⟨by decide, by decide⟩ (c := 11) rfl (by decide) kv0 rfl rfl (Nat.le_of_ble_eq_true rfl) ⟨by decide, by decide⟩ dL_step_5 (fun v9 Z9 I3 L4 q8 => ?_) (fun q1 Z9 I5 L6 q8 => ?_)
  · obtain ⟨rfl, r2, rfl, h⟩ := q8
    show jJ G 5 8 [(0, .ref v0), (1, .int v1), (2, .int v2), (3, .ref v3)] [.int r2, .int (0 : Int32), .ref v3] Z I3 L4 1 6
    refine j_i2l E dL_step_8 ?_
    obtain ⟨o7, h⟩ := h
    refine j_last E kv3 o7 dL_step_9 ?_
    refine j_nmL (fun L8 eL8 => ?_)
    have h := h L8 eL8
    refine j_goto E 17 dL_step_10 (by decide) ?_
    refine j_iconst E (v := 0) dL_step_17 (by decide) ?_
    exact j_ireturn E ⟨rfl, _, rfl, h⟩ (by decide) (by decide) dL_step_18
  · obtain ⟨rfl, h⟩ := q8
    show jJ G 5 13 [(0, .ref v0), (1, .int v1), (2, .int v2), (3, .ref v3)] [.ref q1] Z I5 L6 1 6
    refine j_astore E 4 [(4, .ref q1), (0, .ref v0), (1, .int v1), (2, .int v2), (3, .ref v3)] dL_step_13 (by decide) rfl ?_
    refine j_iconst E (v := 1) dL_step_15 (by decide) ?_
    exact j_ireturn E ⟨rfl, _, rfl, h⟩ (by decide) (by decide) dL_step_16
set_option maxRecDepth 100000 in
def f_L_of (v0 : Nat) (v1 : Int32) (v2 : Int32) (v3 : Nat) (Z : jZ) (I : jI) (L : jL) (Q : Int32 → jI → jL → Prop) : Prop := (f_X11_of v0 v1 v2 Z I L (fun r2 I3 L4 => (vp_in (0 : Int32) (jlen Z v3) ∧ (∀ L8 : jL, L8 = jpL L4 v3 (0 : Int32).toNatClampNeg (r2.toInt64) → Q (0 : Int32) I3 L8))) (fun I5 L6 => Q (1 : Int32) I5 L6))
set_option maxHeartbeats 4000000 in
set_option maxRecDepth 100000 in
theorem c_L_of (l : Launch) (hl0 : l.stackTraces = false) (D : va_G) (cy : jC) (v0 : Nat) (v1 : Int32) (v2 : Int32) (v3 : Nat) (Z : jZ) (I : jI) (L : jL) (Q : Int32 → jI → jL → Prop) (hZ : SH Z) (kv0 : jk Z v0 11) (kv3 : jk Z v3 15) (h : f_L_of v0 v1 v2 v3 Z I L Q) : jCtH l yL_of w_L_of { frames := 7, cells := 1, slots := 6, locals := 113 } D cy [.ref v0, .int v1, .int v2, .ref v3] Z I L (rtI Z Q) := by
  refine jCtH_of (cc := cL_of) (maxL := 5) (ret := (some .int)) (by decide +kernel) rfl (Nat.le_of_ble_eq_true rfl) ?_
  intro G eD eY eL E hV htb
  subst eD; subst eY; subst eL
  have E : jE G cL_of RL w_L_of 5 (some .int) { frames := 7, cells := 1, slots := 6, locals := 113 } (rtI Z Q) := E
  show jJ G 5 0 [(0, .ref v0), (1, .int v1), (2, .int v2), (3, .ref v3)] [] Z I L 0 0
  refine j_aload_n E dL_of_0 3 rfl ?_
  refine j_iconst E (v := 0) dL_of_1 (by decide) ?_
  refine j_aload_n E dL_of_2 0 rfl ?_
  refine j_iload_n E dL_of_3 1 rfl ?_
  refine j_iload_n E dL_of_4 2 rfl ?_
  refine j_callVX E hV (hh := (0, 10, 13, 13)) htb ⟨by decide, by decide⟩ (by decide) (tw W_916) [.int v1, .int v2] [.int (0 : Int32), .ref v3] (c_X11_of (gL G) hl0 (gD G) (gY G) v0 v1 v2 Z I L _ _ hZ kv0 h) (gwV W_918 W_919 W_920 W_28 W_917) rfl ⟨rfl, fy_X11_of⟩ ⟨by decide, by decide⟩ (c := 11) rfl (by decide) kv0 rfl rfl (Nat.le_of_ble_eq_true rfl) ⟨by decide, by decide⟩ dL_of_5 (fun v9 Z9 I3 L4 q8 => ?_) (fun q1 Z9 I5 L6 q8 => ?_)
  · obtain ⟨rfl, r2, rfl, h⟩ := q8
    show jJ G 5 8 [(0, .ref v0), (1, .int v1), (2, .int v2), (3, .ref v3)] [.int r2, .int (0 : Int32), .ref v3] Z I3 L4 1 6
    refine j_i2l E dL_of_8 ?_
    obtain ⟨o7, h⟩ := h
    refine j_last E kv3 o7 dL_of_9 ?_
    refine j_nmL (fun L8 eL8 => ?_)
    have h := h L8 eL8
    refine j_goto E 17 dL_of_10 (by decide) ?_
    refine j_iconst E (v := 0) dL_of_17 (by decide) ?_
    exact j_ireturn E ⟨rfl, _, rfl, h⟩ (by decide) (by decide) dL_of_18
  · obtain ⟨rfl, h⟩ := q8
    show jJ G 5 13 [(0, .ref v0), (1, .int v1), (2, .int v2), (3, .ref v3)] [.ref q1] Z I5 L6 1 6
    refine j_astore E 4 [(4, .ref q1), (0, .ref v0), (1, .int v1), (2, .int v2), (3, .ref v3)] dL_of_13 (by decide) rfl ?_
    refine j_iconst E (v := 1) dL_of_15 (by decide) ?_
    exact j_ireturn E ⟨rfl, _, rfl, h⟩ (by decide) (by decide) dL_of_16
set_option maxRecDepth 100000 in
def f_L_row (v0 : Nat) (v1 : Int32) (v2 : Nat) (Z : jZ) (I : jI) (L : jL) (Q : Int32 → jI → jL → Prop) : Prop := (f_X11_row v0 v1 Z I L (fun r2 I3 L4 => (vp_in (0 : Int32) (jlen Z v2) ∧ (∀ L8 : jL, L8 = jpL L4 v2 (0 : Int32).toNatClampNeg r2 → Q (0 : Int32) I3 L8))) (fun I5 L6 => Q (1 : Int32) I5 L6))
set_option maxHeartbeats 4000000 in
set_option maxRecDepth 100000 in
theorem c_L_row (l : Launch) (hl0 : l.stackTraces = false) (D : va_G) (cy : jC) (v0 : Nat) (v1 : Int32) (v2 : Nat) (Z : jZ) (I : jI) (L : jL) (Q : Int32 → jI → jL → Prop) (hZ : SH Z) (kv0 : jk Z v0 11) (kv2 : jk Z v2 15) (h : f_L_row v0 v1 v2 Z I L Q) : jCtH l yL_row w_L_row { frames := 7, cells := 1, slots := 6, locals := 111 } D cy [.ref v0, .int v1, .ref v2] Z I L (rtI Z Q) := by
  refine jCtH_of (cc := cL_row) (maxL := 4) (ret := (some .int)) (by decide +kernel) rfl (Nat.le_of_ble_eq_true rfl) ?_
  intro G eD eY eL E hV htb
  subst eD; subst eY; subst eL
  have E : jE G cL_row RL w_L_row 4 (some .int) { frames := 7, cells := 1, slots := 6, locals := 111 } (rtI Z Q) := E
  show jJ G 4 0 [(0, .ref v0), (1, .int v1), (2, .ref v2)] [] Z I L 0 0
  refine j_aload_n E dL_row_0 2 rfl ?_
  refine j_iconst E (v := 0) dL_row_1 (by decide) ?_
  refine j_aload_n E dL_row_2 0 rfl ?_
  refine j_iload_n E dL_row_3 1 rfl ?_
  refine j_callVX E hV (hh := (0, 8, 11, 13)) htb ⟨by decide, by decide⟩ (by decide) (tw W_916) [.int v1] [.int (0 : Int32), .ref v2] (c_X11_row (gL G) hl0 (gD G) (gY G) v0 v1 Z I L _ _ hZ kv0 h) (gwV W_922 W_923 W_924 W_28 W_921) rfl ⟨rfl, fy_X11_row⟩ ⟨by decide, by decide⟩ (c := 11) rfl (by decide) kv0 rfl rfl (Nat.le_of_ble_eq_true rfl) ⟨by decide, by decide⟩ dL_row_4 (fun v9 Z9 I3 L4 q8 => ?_) (fun q1 Z9 I5 L6 q8 => ?_)
  · obtain ⟨rfl, r2, rfl, h⟩ := q8
    show jJ G 4 7 [(0, .ref v0), (1, .int v1), (2, .ref v2)] [.long r2, .int (0 : Int32), .ref v2] Z I3 L4 1 6
    obtain ⟨o7, h⟩ := h
    refine j_last E kv2 o7 dL_row_7 ?_
    refine j_nmL (fun L8 eL8 => ?_)
    have h := h L8 eL8
    refine j_goto E 14 dL_row_8 (by decide) ?_
    refine j_iconst E (v := 0) dL_row_14 (by decide) ?_
    exact j_ireturn E ⟨rfl, _, rfl, h⟩ (by decide) (by decide) dL_row_15
  · obtain ⟨rfl, h⟩ := q8
    show jJ G 4 11 [(0, .ref v0), (1, .int v1), (2, .ref v2)] [.ref q1] Z I5 L6 1 6
    refine j_astore_n E 3 [(3, .ref q1), (0, .ref v0), (1, .int v1), (2, .ref v2)] dL_row_11 rfl (by decide) rfl ?_
    refine j_iconst E (v := 1) dL_row_12 (by decide) ?_
    exact j_ireturn E ⟨rfl, _, rfl, h⟩ (by decide) (by decide) dL_row_13
set_option maxRecDepth 100000 in
def f_X11_pilgrim_b49  (Q : Int32 → jZ → jI → jL → Prop) (v0 : Nat) (v1 : Int32) (v2 : Int32) (v3 : Int32) (v4 : Int32) (s0 : Int32) (Z : jZ) (I : jI) (L : jL) : Prop := ((s0 = 0 → Q (-1 : Int32) Z I L) ∧ (¬ (s0 = 0) → (((I v0 4) < (6 : Int32) → (∀ b3 : Nat, jr Z v0 3 = some b3 → (∀ q4 : Nat, q4 ∉ Z.1 → ∀ Z5 : jZ, Z5 = jnw Z q4 5 0 → ∀ I6 : jI, I6 = jz0 I q4 → ∀ L7 : jL, L7 = jzL L q4 → (∀ b11 : Nat, jr Z5 v0 2 = some b11 → (f_X5_init q4 b11 v1 v2 v3 v4 Z5 I6 L7 (fun Z13 I14 L15 => (vp_in (I v0 4) 6 ∧ (∀ Z22 : jZ, Z22 = jpR Z13 b3 (I v0 4).toNatClampNeg (some q4) → (∀ I24 : jI, I24 = jpI I14 v0 4 ((I14 v0 4) + (1 : Int32)) → (SH Z22 ∧ Q ((I24 v0 4) - (1 : Int32)) Z22 I24 L15)))))))))) ∧ (¬ ((I v0 4) < (6 : Int32)) → Q (-1 : Int32) Z I L))))
set_option maxHeartbeats 4000000 in
set_option maxRecDepth 100000 in
theorem m_X11_pilgrim_b49 {G : jG} {Z0 : jZ} {Q : Int32 → jZ → jI → jL → Prop} (E : jE G cX11_pilgrim RX11 w_X11_pilgrim 6 (some .int) { frames := 4, cells := 26, slots := 585, locals := 89 } (xrtI Z0 Q))  (v0 : Nat) (v1 : Int32) (v2 : Int32) (v3 : Int32) (v4 : Int32) (s0 : Int32) (Z : jZ) (I : jI) (L : jL) (hZ : SH Z) (hx : jext Z0 Z) (kv0 : jk Z v0 11) (h : f_X11_pilgrim_b49  Q v0 v1 v2 v3 v4 s0 Z I L) : jJ G 6 49 [(0, .ref v0), (1, .int v1), (2, .int v2), (3, .int v3), (4, .int v4)] [.int s0] Z I L 0 0 := by
  refine j_istore E 5 [(5, .int s0), (0, .ref v0), (1, .int v1), (2, .int v2), (3, .int v3), (4, .int v4)] dX11_pilgrim_49 (by decide) rfl ?_
  refine j_iload E dX11_pilgrim_51 0 rfl ?_
  refine j_if_eq E 65 dX11_pilgrim_53 (by decide) (fun c1 => ?_) (fun c1 => ?_)
  · have h := h.1 c1
    refine j_iconst E (v := -1) dX11_pilgrim_65 (by decide) ?_
    exact j_ireturn E ⟨hx, hZ, _, rfl, h⟩ (Nat.zero_le _) (Nat.zero_le _) dX11_pilgrim_66
  · have h := h.2 c1
    refine j_aload_n E dX11_pilgrim_56 1 rfl ?_
    refine j_geti E 11 4 rfl rfl (by decide) (by decide) (iw iT_11) rfl rfl (tw W_415) kv0 dX11_pilgrim_57 ?_
    refine j_bipush E (v := 6) dX11_pilgrim_60 (by decide) ?_
    refine j_icmp_lt E 67 dX11_pilgrim_62 (by decide) (fun c2 => ?_) (fun c2 => ?_)
    · have h := h.1 c2
      refine j_aload_n E dX11_pilgrim_67 1 rfl ?_
      obtain ⟨b3, eb3, kb3, lb3⟩ := sh_f hZ kv0 (j := 3) (k := 18) (m := 6) rfl
      have h := h b3 eb3
      refine j_getr E 11 3 rfl rfl (by decide) (by decide) (iw iT_11) rfl rfl (tw W_416) kv0 eb3 dX11_pilgrim_68 ?_
      refine j_aload_n E dX11_pilgrim_71 1 rfl ?_
      refine j_geti E 11 4 rfl rfl (by decide) (by decide) (iw iT_11) rfl rfl (tw W_415) kv0 dX11_pilgrim_72 ?_
      refine j_new E 5 rfl rfl (by decide) (iw iT_5) tyX5_ok (by decide) (tw W_968) (tw W_994) (tw W_425) (by decide) (by decide) dX11_pilgrim_75 (fun q4 nq4 => ?_)
      refine j_nmZ (fun Z5 eZ5 => ?_)
      refine j_nmI (fun I6 eI6 => ?_)
      refine j_nmL (fun L7 eL7 => ?_)
      have h := h q4 nq4 Z5 eZ5 I6 eI6 L7 eL7
      have yZ5 : jext Z Z5 := by rw [eZ5]; exact jext_nw nq4
      have kq4 : jk Z5 q4 5 := by rw [eZ5]; exact jk_nw
      have k8 := (yZ5 _ _ kv0).1
      have k9 := (yZ5 _ _ kb3).1
      have l10 := (yZ5 _ _ kb3).2.trans lb3
      have hx : jext Z0 Z5 := jext_trans hx yZ5
      refine j_dup E dX11_pilgrim_78 rfl ?_
      refine j_aload_n E dX11_pilgrim_79 1 rfl ?_
      obtain ⟨b11, eb11, kb11⟩ := sh_o hZ kv0 (j := 2) (k := 8) rfl
      have eb11 : jr Z5 v0 2 = some b11 := by rw [eZ5]; exact (congrFun (show (jnw Z q4 5 0).2.2.2 v0 = Z.2.2.2 v0 from va_up_ne _ _ (fun e => nq4 (e ▸ kv0.1))) 2).trans eb11
      have kb11 := (yZ5 _ _ kb11).1
      have h := h b11 eb11
      refine j_getr E 11 2 rfl rfl (by decide) (by decide) (iw iT_11) rfl rfl (tw W_438) k8 eb11 dX11_pilgrim_80 ?_
      refine j_iload_n E dX11_pilgrim_83 2 rfl ?_
      refine j_iload_n E dX11_pilgrim_84 3 rfl ?_
      refine j_iload_n E dX11_pilgrim_85 4 rfl ?_
      refine j_iload E dX11_pilgrim_86 5 rfl ?_
      refine j_callI E [.ref b11, .int v1, .int v2, .int v3, .int v4] [.ref q4, .int (I v0 4), .ref b3] (c_X5_init (gL G) (gD G) (gY G) q4 b11 v1 v2 v3 v4 Z5 I6 L7 _ kq4 kb11 h) (gwN W_995) rfl (tw W_425) (tw W_996) (tw W_997) rfl fy_X5_init ⟨by decide, by decide⟩ rfl rfl (Nat.le_of_ble_eq_true rfl) ⟨by decide, by decide⟩ dX11_pilgrim_88 (fun v12 Z13 I14 L15 q16 => ?_)
      obtain ⟨yZ13, rfl, h⟩ := q16
      have k17 := (yZ13 _ _ k8).1
      have k18 := (yZ13 _ _ k9).1
      have l19 := (yZ13 _ _ k9).2.trans l10
      have k20 := (yZ13 _ _ kq4).1
      have hx : jext Z0 Z13 := jext_trans hx yZ13
      show jJ G 6 91 [(5, .int s0), (0, .ref v0), (1, .int v1), (2, .int v2), (3, .int v3), (4, .int v4)] [.ref q4, .int (I v0 4), .ref b3] Z13 I14 L15 _ _
      obtain ⟨o21, h⟩ := h
      refine j_aastP E k18 (by rw [l19]; exact o21) k20 dX11_pilgrim_91 ?_
      refine j_nmZ (fun Z22 eZ22 => ?_)
      have h := h Z22 eZ22
      have yZ22 : jext Z13 Z22 := by rw [eZ22]; exact jext_putr
      have k23 := (yZ22 _ _ k17).1
      have hx : jext Z0 Z22 := jext_trans hx yZ22
      refine j_aload_n E dX11_pilgrim_92 1 rfl ?_
      refine j_dup E dX11_pilgrim_93 rfl ?_
      refine j_geti E 11 4 rfl rfl (by decide) (by decide) (iw iT_11) rfl rfl (tw W_415) k23 dX11_pilgrim_94 ?_
      refine j_iconst E (v := 1) dX11_pilgrim_97 (by decide) ?_
      refine j_iadd E dX11_pilgrim_98 ?_
      refine j_puti E 11 4 rfl rfl (by decide) (by decide) (iw iT_11) tyX11_ok nmX11 rfl rfl (tw W_415) rfl rfl rfl k23 dX11_pilgrim_99 ?_
      refine j_nmI (fun I24 eI24 => ?_)
      have h := h I24 eI24
      refine j_aload_n E dX11_pilgrim_102 1 rfl ?_
      refine j_geti E 11 4 rfl rfl (by decide) (by decide) (iw iT_11) rfl rfl (tw W_415) k23 dX11_pilgrim_103 ?_
      refine j_iconst E (v := 1) dX11_pilgrim_106 (by decide) ?_
      refine j_isub E dX11_pilgrim_107 ?_
      obtain ⟨o25, h⟩ := h
      exact j_ireturn E ⟨hx, o25, _, rfl, h⟩ (by decide) (by decide) dX11_pilgrim_108
    · have h := h.2 c2
      refine j_iconst E (v := -1) dX11_pilgrim_65 (by decide) ?_
      exact j_ireturn E ⟨hx, hZ, _, rfl, h⟩ (Nat.zero_le _) (Nat.zero_le _) dX11_pilgrim_66
set_option maxRecDepth 100000 in
def f_X11_pilgrim_b48  (Q : Int32 → jZ → jI → jL → Prop) (v0 : Nat) (v1 : Int32) (v2 : Int32) (v3 : Int32) (v4 : Int32) (Z : jZ) (I : jI) (L : jL) : Prop := f_X11_pilgrim_b49  Q v0 v1 v2 v3 v4 (0 : Int32) Z I L
set_option maxHeartbeats 4000000 in
set_option maxRecDepth 100000 in
theorem m_X11_pilgrim_b48 {G : jG} {Z0 : jZ} {Q : Int32 → jZ → jI → jL → Prop} (E : jE G cX11_pilgrim RX11 w_X11_pilgrim 6 (some .int) { frames := 4, cells := 26, slots := 585, locals := 89 } (xrtI Z0 Q))  (v0 : Nat) (v1 : Int32) (v2 : Int32) (v3 : Int32) (v4 : Int32) (Z : jZ) (I : jI) (L : jL) (hZ : SH Z) (hx : jext Z0 Z) (kv0 : jk Z v0 11) (h : f_X11_pilgrim_b48  Q v0 v1 v2 v3 v4 Z I L) : jJ G 6 48 [(0, .ref v0), (1, .int v1), (2, .int v2), (3, .int v3), (4, .int v4)] [] Z I L 0 0 := by
  refine j_iconst E (v := 0) dX11_pilgrim_48 (by decide) ?_
  refine j_sub [0, 1, 2, 3, 4] rfl ?_
  exact m_X11_pilgrim_b49 E  v0 v1 v2 v3 v4 (0 : Int32) Z I L hZ hx kv0 h
set_option maxRecDepth 100000 in
def f_X11_pilgrim (v0 : Nat) (v1 : Int32) (v2 : Int32) (v3 : Int32) (v4 : Int32) (Z : jZ) (I : jI) (L : jL) (Q : Int32 → jZ → jI → jL → Prop) : Prop := ((v1 < (1 : Int32) → f_X11_pilgrim_b48  Q v0 v1 v2 v3 v4 Z I L) ∧ (¬ (v1 < (1 : Int32)) → (((120 : Int32) < v1 → f_X11_pilgrim_b48  Q v0 v1 v2 v3 v4 Z I L) ∧ (¬ ((120 : Int32) < v1) → ((v2 < 0 → f_X11_pilgrim_b48  Q v0 v1 v2 v3 v4 Z I L) ∧ (¬ (v2 < 0) → (((999 : Int32) < v2 → f_X11_pilgrim_b48  Q v0 v1 v2 v3 v4 Z I L) ∧ (¬ ((999 : Int32) < v2) → ((v3 < (1 : Int32) → f_X11_pilgrim_b48  Q v0 v1 v2 v3 v4 Z I L) ∧ (¬ (v3 < (1 : Int32)) → (((3 : Int32) < v3 → f_X11_pilgrim_b48  Q v0 v1 v2 v3 v4 Z I L) ∧ (¬ ((3 : Int32) < v3) → ((v4 < 0 → f_X11_pilgrim_b48  Q v0 v1 v2 v3 v4 Z I L) ∧ (¬ (v4 < 0) → (((50 : Int32) < v4 → f_X11_pilgrim_b48  Q v0 v1 v2 v3 v4 Z I L) ∧ (¬ ((50 : Int32) < v4) → f_X11_pilgrim_b49  Q v0 v1 v2 v3 v4 (1 : Int32) Z I L))))))))))))))))
set_option maxHeartbeats 4000000 in
set_option maxRecDepth 100000 in
theorem c_X11_pilgrim (l : Launch) (D : va_G) (cy : jC) (v0 : Nat) (v1 : Int32) (v2 : Int32) (v3 : Int32) (v4 : Int32) (Z : jZ) (I : jI) (L : jL) (Q : Int32 → jZ → jI → jL → Prop) (hZ : SH Z) (kv0 : jk Z v0 11) (h : f_X11_pilgrim v0 v1 v2 v3 v4 Z I L Q) : jCt l yX11_pilgrim w_X11_pilgrim { frames := 4, cells := 26, slots := 585, locals := 89 } D cy [.ref v0, .int v1, .int v2, .int v3, .int v4] Z I L (xrtI Z Q) := by
  refine jCt_of (cc := cX11_pilgrim) (maxL := 6) (ret := (some .int)) (by decide +kernel) rfl (Nat.le_of_ble_eq_true rfl) ?_
  intro G eD eY eL E
  subst eD; subst eY; subst eL
  have E : jE G cX11_pilgrim RX11 w_X11_pilgrim 6 (some .int) { frames := 4, cells := 26, slots := 585, locals := 89 } (xrtI Z Q) := E
  have hx : jext Z Z := jext_rfl
  show jJ G 6 0 [(0, .ref v0), (1, .int v1), (2, .int v2), (3, .int v3), (4, .int v4)] [] Z I L 0 0
  refine j_iload_n E dX11_pilgrim_0 1 rfl ?_
  refine j_iconst E (v := 1) dX11_pilgrim_1 (by decide) ?_
  refine j_icmp_lt E 48 dX11_pilgrim_2 (by decide) (fun c26 => ?_) (fun c26 => ?_)
  · have h := h.1 c26
    refine j_sub [0, 1, 2, 3, 4] rfl ?_
    exact m_X11_pilgrim_b48 E  v0 v1 v2 v3 v4 Z I L hZ hx kv0 h
  · have h := h.2 c26
    refine j_iload_n E dX11_pilgrim_5 1 rfl ?_
    refine j_bipush E (v := 120) dX11_pilgrim_6 (by decide) ?_
    refine j_icmp_gt E 48 dX11_pilgrim_8 (by decide) (fun c27 => ?_) (fun c27 => ?_)
    · have h := h.1 c27
      refine j_sub [0, 1, 2, 3, 4] rfl ?_
      exact m_X11_pilgrim_b48 E  v0 v1 v2 v3 v4 Z I L hZ hx kv0 h
    · have h := h.2 c27
      refine j_iload_n E dX11_pilgrim_11 2 rfl ?_
      refine j_if_lt E 48 dX11_pilgrim_12 (by decide) (fun c28 => ?_) (fun c28 => ?_)
      · have h := h.1 c28
        refine j_sub [0, 1, 2, 3, 4] rfl ?_
        exact m_X11_pilgrim_b48 E  v0 v1 v2 v3 v4 Z I L hZ hx kv0 h
      · have h := h.2 c28
        refine j_iload_n E dX11_pilgrim_15 2 rfl ?_
        refine j_sipush E (v := 999) dX11_pilgrim_16 (by decide) ?_
        refine j_icmp_gt E 48 dX11_pilgrim_19 (by decide) (fun c29 => ?_) (fun c29 => ?_)
        · have h := h.1 c29
          refine j_sub [0, 1, 2, 3, 4] rfl ?_
          exact m_X11_pilgrim_b48 E  v0 v1 v2 v3 v4 Z I L hZ hx kv0 h
        · have h := h.2 c29
          refine j_iload_n E dX11_pilgrim_22 3 rfl ?_
          refine j_iconst E (v := 1) dX11_pilgrim_23 (by decide) ?_
          refine j_icmp_lt E 48 dX11_pilgrim_24 (by decide) (fun c30 => ?_) (fun c30 => ?_)
          · have h := h.1 c30
            refine j_sub [0, 1, 2, 3, 4] rfl ?_
            exact m_X11_pilgrim_b48 E  v0 v1 v2 v3 v4 Z I L hZ hx kv0 h
          · have h := h.2 c30
            refine j_iload_n E dX11_pilgrim_27 3 rfl ?_
            refine j_iconst E (v := 3) dX11_pilgrim_28 (by decide) ?_
            refine j_icmp_gt E 48 dX11_pilgrim_29 (by decide) (fun c31 => ?_) (fun c31 => ?_)
            · have h := h.1 c31
              refine j_sub [0, 1, 2, 3, 4] rfl ?_
              exact m_X11_pilgrim_b48 E  v0 v1 v2 v3 v4 Z I L hZ hx kv0 h
            · have h := h.2 c31
              refine j_iload E dX11_pilgrim_32 4 rfl ?_
              refine j_if_lt E 48 dX11_pilgrim_34 (by decide) (fun c32 => ?_) (fun c32 => ?_)
              · have h := h.1 c32
                refine j_sub [0, 1, 2, 3, 4] rfl ?_
                exact m_X11_pilgrim_b48 E  v0 v1 v2 v3 v4 Z I L hZ hx kv0 h
              · have h := h.2 c32
                refine j_iload E dX11_pilgrim_37 4 rfl ?_
                refine j_bipush E (v := 50) dX11_pilgrim_39 (by decide) ?_
                refine j_icmp_gt E 48 dX11_pilgrim_41 (by decide) (fun c33 => ?_) (fun c33 => ?_)
                · have h := h.1 c33
                  refine j_sub [0, 1, 2, 3, 4] rfl ?_
                  exact m_X11_pilgrim_b48 E  v0 v1 v2 v3 v4 Z I L hZ hx kv0 h
                · have h := h.2 c33
                  refine j_iconst E (v := 1) dX11_pilgrim_44 (by decide) ?_
                  refine j_goto E 49 dX11_pilgrim_45 (by decide) ?_
                  refine j_sub [0, 1, 2, 3, 4] rfl ?_
                  exact m_X11_pilgrim_b49 E  v0 v1 v2 v3 v4 (1 : Int32) Z I L hZ hx kv0 h
