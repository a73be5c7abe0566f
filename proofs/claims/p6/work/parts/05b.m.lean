set_option maxRecDepth 100000 in
def f_X1_goOn_b153  (Z : jZ) (Q : jI → jL → Prop) (s0 : Nat) (s1 : Int32) (s2 : Int32) (I : jI) (L : jL) : Prop := (∀ I1 : jI, I1 = jpI I s0 7 (s1 - s2) → Q I1 L)
set_option maxHeartbeats 4000000 in
set_option maxRecDepth 100000 in
theorem m_X1_goOn_b153 {G : jG} {Z : jZ} {Q : jI → jL → Prop} (E : jE G cX1_goOn RX1 w_X1_goOn 4 none { frames := 2, cells := 0, slots := 0, locals := 42 } (rtV Z Q)) (hZ : SH Z)  (s0 : Nat) (s1 : Int32) (s2 : Int32) (I : jI) (L : jL) (ks0 : jk Z s0 1) (h : f_X1_goOn_b153  Z Q s0 s1 s2 I L) : jJ G 4 153 [] [.int s2, .int s1, .ref s0] Z I L 0 0 := by
  refine j_isub E dX1_goOn_153 ?_
  refine j_puti E 1 7 rfl rfl (by decide) (by decide) (iw iT_1) tyX1_ok nmX1 rfl rfl (tw W_131) rfl rfl rfl ks0 dX1_goOn_154 ?_
  refine j_nmI (fun I1 eI1 => ?_)
  have h := h I1 eI1
  exact j_return E ⟨rfl, rfl, h⟩ (Nat.zero_le _) (Nat.zero_le _) dX1_goOn_157
set_option maxRecDepth 100000 in
def f_X1_goOn_b116  (Z : jZ) (Q : jI → jL → Prop) (v0 : Nat) (v1 : Int32) (v3 : Int32) (I : jI) (L : jL) : Prop := (∀ b2 : Nat, jr Z v0 4 = some b2 → (vp_in v3 24 ∧ (vp_in v3 24 ∧ (∀ I5 : jI, I5 = jpI I b2 v3.toNatClampNeg ((I b2 v3.toNatClampNeg) + (1 : Int32)) → (∀ b6 : Nat, jr Z v0 2 = some b6 → (vp_in v1 6 ∧ (∀ I8 : jI, I8 = jpI I5 b6 v1.toNatClampNeg v3 → ((¬ v3 = ((I8 v0 6) - (1 : Int32)) → f_X1_goOn_b153  Z Q v0 (I8 v0 7) (0 : Int32) I8 L) ∧ (v3 = ((I8 v0 6) - (1 : Int32)) → f_X1_goOn_b153  Z Q v0 (I8 v0 7) (1 : Int32) I8 L)))))))))
set_option maxHeartbeats 4000000 in
set_option maxRecDepth 100000 in
theorem m_X1_goOn_b116 {G : jG} {Z : jZ} {Q : jI → jL → Prop} (E : jE G cX1_goOn RX1 w_X1_goOn 4 none { frames := 2, cells := 0, slots := 0, locals := 42 } (rtV Z Q)) (hZ : SH Z)  (v0 : Nat) (v1 : Int32) (v3 : Int32) (I : jI) (L : jL) (kv0 : jk Z v0 1) (h : f_X1_goOn_b116  Z Q v0 v1 v3 I L) : jJ G 4 116 [(0, .ref v0), (1, .int v1), (3, .int v3)] [] Z I L 0 0 := by
  refine j_aload_n E dX1_goOn_116 0 rfl ?_
  obtain ⟨b2, eb2, kb2, lb2⟩ := sh_f hZ kv0 (j := 4) (k := 14) (m := 24) rfl
  have h := h b2 eb2
  refine j_getr E 1 4 rfl rfl (by decide) (by decide) (iw iT_1) rfl rfl (tw W_134) kv0 eb2 dX1_goOn_117 ?_
  refine j_iload_n E dX1_goOn_120 2 rfl ?_
  refine j_dup2_11 E dX1_goOn_121 rfl rfl ?_
  obtain ⟨o3, h⟩ := h
  refine j_iald E kb2 (by rw [lb2]; exact o3) dX1_goOn_122 ?_
  refine j_iconst E (v := 1) dX1_goOn_123 (by decide) ?_
  refine j_iadd E dX1_goOn_124 ?_
  obtain ⟨o4, h⟩ := h
  refine j_iast E kb2 (by rw [lb2]; exact o4) dX1_goOn_125 ?_
  refine j_nmI (fun I5 eI5 => ?_)
  have h := h I5 eI5
  refine j_aload_n E dX1_goOn_126 0 rfl ?_
  obtain ⟨b6, eb6, kb6, lb6⟩ := sh_f hZ kv0 (j := 2) (k := 14) (m := 6) rfl
  have h := h b6 eb6
  refine j_getr E 1 2 rfl rfl (by decide) (by decide) (iw iT_1) rfl rfl (tw W_127) kv0 eb6 dX1_goOn_127 ?_
  refine j_iload_n E dX1_goOn_130 1 rfl ?_
  refine j_iload_n E dX1_goOn_131 2 rfl ?_
  obtain ⟨o7, h⟩ := h
  refine j_iast E kb6 (by rw [lb6]; exact o7) dX1_goOn_132 ?_
  refine j_nmI (fun I8 eI8 => ?_)
  have h := h I8 eI8
  refine j_aload_n E dX1_goOn_133 0 rfl ?_
  refine j_dup E dX1_goOn_134 rfl ?_
  refine j_geti E 1 7 rfl rfl (by decide) (by decide) (iw iT_1) rfl rfl (tw W_131) kv0 dX1_goOn_135 ?_
  refine j_iload_n E dX1_goOn_138 2 rfl ?_
  refine j_aload_n E dX1_goOn_139 0 rfl ?_
  refine j_geti E 1 6 rfl rfl (by decide) (by decide) (iw iT_1) rfl rfl (tw W_130) kv0 dX1_goOn_140 ?_
  refine j_iconst E (v := 1) dX1_goOn_143 (by decide) ?_
  refine j_isub E dX1_goOn_144 ?_
  refine j_icmp_ne E 152 dX1_goOn_145 (by decide) (fun c9 => ?_) (fun c9 => ?_)
  · have h := h.1 c9
    refine j_iconst E (v := 0) dX1_goOn_152 (by decide) ?_
    refine j_sub [] rfl ?_
    exact m_X1_goOn_b153 E hZ  v0 (I8 v0 7) (0 : Int32) I8 L kv0 h
  · have h := h.2 c9
    refine j_iconst E (v := 1) dX1_goOn_148 (by decide) ?_
    refine j_goto E 153 dX1_goOn_149 (by decide) ?_
    refine j_sub [] rfl ?_
    exact m_X1_goOn_b153 E hZ  v0 (I8 v0 7) (1 : Int32) I8 L kv0 h
set_option maxRecDepth 100000 in
def f_X1_goOn_b92  (Z : jZ) (Q : jI → jL → Prop) (v0 : Nat) (v1 : Int32) (v3 : Int32) (I : jI) (L : jL) : Prop := (∀ b10 : Nat, jr Z v0 2 = some b10 → (vp_in v1 6 ∧ (((I b10 v1.toNatClampNeg) < 0 → f_X1_goOn_b116  Z Q v0 v1 v3 I L) ∧ (¬ ((I b10 v1.toNatClampNeg) < 0) → (∀ b13 : Nat, jr Z v0 4 = some b13 → (∀ b14 : Nat, jr Z v0 2 = some b14 → (vp_in v1 6 ∧ (vp_in (I b14 v1.toNatClampNeg) 24 ∧ (vp_in (I b14 v1.toNatClampNeg) 24 ∧ (∀ I18 : jI, I18 = jpI I b13 (I b14 v1.toNatClampNeg).toNatClampNeg ((I b13 (I b14 v1.toNatClampNeg).toNatClampNeg) - (1 : Int32)) → f_X1_goOn_b116  Z Q v0 v1 v3 I18 L))))))))))
set_option maxHeartbeats 4000000 in
set_option maxRecDepth 100000 in
theorem m_X1_goOn_b92 {G : jG} {Z : jZ} {Q : jI → jL → Prop} (E : jE G cX1_goOn RX1 w_X1_goOn 4 none { frames := 2, cells := 0, slots := 0, locals := 42 } (rtV Z Q)) (hZ : SH Z)  (v0 : Nat) (v1 : Int32) (v3 : Int32) (I : jI) (L : jL) (kv0 : jk Z v0 1) (h : f_X1_goOn_b92  Z Q v0 v1 v3 I L) : jJ G 4 92 [(0, .ref v0), (1, .int v1), (3, .int v3)] [] Z I L 0 0 := by
  refine j_aload_n E dX1_goOn_92 0 rfl ?_
  obtain ⟨b10, eb10, kb10, lb10⟩ := sh_f hZ kv0 (j := 2) (k := 14) (m := 6) rfl
  have h := h b10 eb10
  refine j_getr E 1 2 rfl rfl (by decide) (by decide) (iw iT_1) rfl rfl (tw W_127) kv0 eb10 dX1_goOn_93 ?_
  refine j_iload_n E dX1_goOn_96 1 rfl ?_
  obtain ⟨o11, h⟩ := h
  refine j_iald E kb10 (by rw [lb10]; exact o11) dX1_goOn_97 ?_
  refine j_if_lt E 116 dX1_goOn_98 (by decide) (fun c12 => ?_) (fun c12 => ?_)
  · have h := h.1 c12
    refine j_sub [0, 1, 2] rfl ?_
    exact m_X1_goOn_b116 E hZ  v0 v1 v3 I L kv0 h
  · have h := h.2 c12
    refine j_aload_n E dX1_goOn_101 0 rfl ?_
    obtain ⟨b13, eb13, kb13, lb13⟩ := sh_f hZ kv0 (j := 4) (k := 14) (m := 24) rfl
    have h := h b13 eb13
    refine j_getr E 1 4 rfl rfl (by decide) (by decide) (iw iT_1) rfl rfl (tw W_134) kv0 eb13 dX1_goOn_102 ?_
    refine j_aload_n E dX1_goOn_105 0 rfl ?_
    obtain ⟨b14, eb14, kb14, lb14⟩ := sh_f hZ kv0 (j := 2) (k := 14) (m := 6) rfl
    have h := h b14 eb14
    refine j_getr E 1 2 rfl rfl (by decide) (by decide) (iw iT_1) rfl rfl (tw W_127) kv0 eb14 dX1_goOn_106 ?_
    refine j_iload_n E dX1_goOn_109 1 rfl ?_
    obtain ⟨o15, h⟩ := h
    refine j_iald E kb14 (by rw [lb14]; exact o15) dX1_goOn_110 ?_
    refine j_dup2_11 E dX1_goOn_111 rfl rfl ?_
    obtain ⟨o16, h⟩ := h
    refine j_iald E kb13 (by rw [lb13]; exact o16) dX1_goOn_112 ?_
    refine j_iconst E (v := 1) dX1_goOn_113 (by decide) ?_
    refine j_isub E dX1_goOn_114 ?_
    obtain ⟨o17, h⟩ := h
    refine j_iast E kb13 (by rw [lb13]; exact o17) dX1_goOn_115 ?_
    refine j_nmI (fun I18 eI18 => ?_)
    have h := h I18 eI18
    refine j_sub [0, 1, 2] rfl ?_
    exact m_X1_goOn_b116 E hZ  v0 v1 v3 I18 L kv0 h
set_option maxRecDepth 100000 in
def f_X1_goOn_b38  (Z : jZ) (Q : jI → jL → Prop) (v0 : Nat) (v1 : Int32) (v2 : Int32) (v3 : Int32) (I : jI) (L : jL) : Prop := ((v3 < 0 → Q I L) ∧ (¬ (v3 < 0) → ((v3 < (I v0 6) → ((((I v0 6) - (1 : Int32)) ≤ v3 → f_X1_goOn_b92  Z Q v0 v1 v3 I L) ∧ (¬ (((I v0 6) - (1 : Int32)) ≤ v3) → (∀ b22 : Nat, jr Z v0 4 = some b22 → (vp_in v3 24 ∧ (((I b22 v3.toNatClampNeg) < v2 → f_X1_goOn_b92  Z Q v0 v1 v3 I L) ∧ (¬ ((I b22 v3.toNatClampNeg) < v2) → (∀ b25 : Nat, jr Z v0 3 = some b25 → (vp_in v1 6 ∧ (vp_in v1 6 ∧ (∀ I28 : jI, I28 = jpI I b25 v1.toNatClampNeg ((I b25 v1.toNatClampNeg) + (1 : Int32)) → (∀ b29 : Nat, jr Z v0 5 = some b29 → (vp_in v3 24 ∧ (vp_in v3 24 ∧ (∀ I32 : jI, I32 = jpI I28 b29 v3.toNatClampNeg ((I28 b29 v3.toNatClampNeg) + (1 : Int32)) → Q I32 L))))))))))))))) ∧ (¬ (v3 < (I v0 6)) → Q I L))))
set_option maxHeartbeats 4000000 in
set_option maxRecDepth 100000 in
theorem m_X1_goOn_b38 {G : jG} {Z : jZ} {Q : jI → jL → Prop} (E : jE G cX1_goOn RX1 w_X1_goOn 4 none { frames := 2, cells := 0, slots := 0, locals := 42 } (rtV Z Q)) (hZ : SH Z)  (v0 : Nat) (v1 : Int32) (v2 : Int32) (v3 : Int32) (I : jI) (L : jL) (kv0 : jk Z v0 1) (h : f_X1_goOn_b38  Z Q v0 v1 v2 v3 I L) : jJ G 4 38 [(0, .ref v0), (1, .int v1), (2, .int v2), (3, .int v3)] [] Z I L 0 0 := by
  refine j_iload_n E dX1_goOn_38 3 rfl ?_
  refine j_if_lt E 50 dX1_goOn_39 (by decide) (fun c19 => ?_) (fun c19 => ?_)
  · have h := h.1 c19
    exact j_return E ⟨rfl, rfl, h⟩ (Nat.zero_le _) (Nat.zero_le _) dX1_goOn_50
  · have h := h.2 c19
    refine j_iload_n E dX1_goOn_42 3 rfl ?_
    refine j_aload_n E dX1_goOn_43 0 rfl ?_
    refine j_geti E 1 6 rfl rfl (by decide) (by decide) (iw iT_1) rfl rfl (tw W_130) kv0 dX1_goOn_44 ?_
    refine j_icmp_lt E 51 dX1_goOn_47 (by decide) (fun c20 => ?_) (fun c20 => ?_)
    · have h := h.1 c20
      refine j_iload_n E dX1_goOn_51 3 rfl ?_
      refine j_aload_n E dX1_goOn_52 0 rfl ?_
      refine j_geti E 1 6 rfl rfl (by decide) (by decide) (iw iT_1) rfl rfl (tw W_130) kv0 dX1_goOn_53 ?_
      refine j_iconst E (v := 1) dX1_goOn_56 (by decide) ?_
      refine j_isub E dX1_goOn_57 ?_
      refine j_icmp_ge E 92 dX1_goOn_58 (by decide) (fun c21 => ?_) (fun c21 => ?_)
      · have h := h.1 c21
        refine j_sub [0, 1, 3] rfl ?_
        exact m_X1_goOn_b92 E hZ  v0 v1 v3 I L kv0 h
      · have h := h.2 c21
        refine j_aload_n E dX1_goOn_61 0 rfl ?_
        obtain ⟨b22, eb22, kb22, lb22⟩ := sh_f hZ kv0 (j := 4) (k := 14) (m := 24) rfl
        have h := h b22 eb22
        refine j_getr E 1 4 rfl rfl (by decide) (by decide) (iw iT_1) rfl rfl (tw W_134) kv0 eb22 dX1_goOn_62 ?_
        refine j_iload_n E dX1_goOn_65 3 rfl ?_
        obtain ⟨o23, h⟩ := h
        refine j_iald E kb22 (by rw [lb22]; exact o23) dX1_goOn_66 ?_
        refine j_iload_n E dX1_goOn_67 2 rfl ?_
        refine j_icmp_lt E 92 dX1_goOn_68 (by decide) (fun c24 => ?_) (fun c24 => ?_)
        · have h := h.1 c24
          refine j_sub [0, 1, 3] rfl ?_
          exact m_X1_goOn_b92 E hZ  v0 v1 v3 I L kv0 h
        · have h := h.2 c24
          refine j_aload_n E dX1_goOn_71 0 rfl ?_
          obtain ⟨b25, eb25, kb25, lb25⟩ := sh_f hZ kv0 (j := 3) (k := 14) (m := 6) rfl
          have h := h b25 eb25
          refine j_getr E 1 3 rfl rfl (by decide) (by decide) (iw iT_1) rfl rfl (tw W_128) kv0 eb25 dX1_goOn_72 ?_
          refine j_iload_n E dX1_goOn_75 1 rfl ?_
          refine j_dup2_11 E dX1_goOn_76 rfl rfl ?_
          obtain ⟨o26, h⟩ := h
          refine j_iald E kb25 (by rw [lb25]; exact o26) dX1_goOn_77 ?_
          refine j_iconst E (v := 1) dX1_goOn_78 (by decide) ?_
          refine j_iadd E dX1_goOn_79 ?_
          obtain ⟨o27, h⟩ := h
          refine j_iast E kb25 (by rw [lb25]; exact o27) dX1_goOn_80 ?_
          refine j_nmI (fun I28 eI28 => ?_)
          have h := h I28 eI28
          refine j_aload_n E dX1_goOn_81 0 rfl ?_
          obtain ⟨b29, eb29, kb29, lb29⟩ := sh_f hZ kv0 (j := 5) (k := 14) (m := 24) rfl
          have h := h b29 eb29
          refine j_getr E 1 5 rfl rfl (by decide) (by decide) (iw iT_1) rfl rfl (tw W_136) kv0 eb29 dX1_goOn_82 ?_
          refine j_iload_n E dX1_goOn_85 3 rfl ?_
          refine j_dup2_11 E dX1_goOn_86 rfl rfl ?_
          obtain ⟨o30, h⟩ := h
          refine j_iald E kb29 (by rw [lb29]; exact o30) dX1_goOn_87 ?_
          refine j_iconst E (v := 1) dX1_goOn_88 (by decide) ?_
          refine j_iadd E dX1_goOn_89 ?_
          obtain ⟨o31, h⟩ := h
          refine j_iast E kb29 (by rw [lb29]; exact o31) dX1_goOn_90 ?_
          refine j_nmI (fun I32 eI32 => ?_)
          have h := h I32 eI32
          exact j_return E ⟨rfl, rfl, h⟩ (Nat.zero_le _) (Nat.zero_le _) dX1_goOn_91
    · have h := h.2 c20
      exact j_return E ⟨rfl, rfl, h⟩ (Nat.zero_le _) (Nat.zero_le _) dX1_goOn_50
set_option maxRecDepth 100000 in
def f_X1_goOn_L9  (Z : jZ) (Q : jI → jL → Prop) : Nat → Nat → Int32 → Int32 → Int32 → jI → jL → Prop
  | 0 => fun _ _ _ _ _ _ => False
  | n + 1 => fun v0 v1 v2 v3 I L => ((((I v0 6) - (1 : Int32)) ≤ v3 → f_X1_goOn_b38  Z Q v0 v1 v2 v3 I L) ∧ (¬ (((I v0 6) - (1 : Int32)) ≤ v3) → (∀ b34 : Nat, jr Z v0 1 = some b34 → (vp_in v1 6 ∧ (f_X11_treads (L b34 v1.toNatClampNeg) v3 Z I L (fun r42 I38 L39 => ((¬ r42 = 0 → f_X1_goOn_b38  Z Q v0 v1 v2 v3 I38 L39) ∧ (r42 = 0 → (∀ x44 : Int32, x44 = v3 + 1 → (f_X1_goOn_L9 Z Q n) v0 v1 v2 x44 I38 L39)))))))))
set_option maxHeartbeats 4000000 in
set_option maxRecDepth 100000 in
theorem m_X1_goOn_L9 {G : jG} {Z : jZ} {Q : jI → jL → Prop} (E : jE G cX1_goOn RX1 w_X1_goOn 4 none { frames := 2, cells := 0, slots := 0, locals := 42 } (rtV Z Q)) (hZ : SH Z)  : ∀ (n : Nat) (v0 : Nat) (v1 : Int32) (v2 : Int32) (v3 : Int32) (I : jI) (L : jL), jk Z v0 1 → f_X1_goOn_L9  Z Q n v0 v1 v2 v3 I L → jJ G 4 9 [(0, .ref v0), (1, .int v1), (2, .int v2), (3, .int v3)] [] Z I L 0 0 := by
  intro n
  induction n with
  | zero => intro v0 v1 v2 v3 I L _ h; exact h.elim
  | succ n ih =>
    intro v0 v1 v2 v3 I L kv0 h
    have h : ((((I v0 6) - (1 : Int32)) ≤ v3 → f_X1_goOn_b38  Z Q v0 v1 v2 v3 I L) ∧ (¬ (((I v0 6) - (1 : Int32)) ≤ v3) → (∀ b34 : Nat, jr Z v0 1 = some b34 → (vp_in v1 6 ∧ (f_X11_treads (L b34 v1.toNatClampNeg) v3 Z I L (fun r42 I38 L39 => ((¬ r42 = 0 → f_X1_goOn_b38  Z Q v0 v1 v2 v3 I38 L39) ∧ (r42 = 0 → (∀ x44 : Int32, x44 = v3 + 1 → (f_X1_goOn_L9 Z Q n) v0 v1 v2 x44 I38 L39))))))))) := h
    obtain ⟨K9, eK9⟩ : ∃ K : Nat → Int32 → Int32 → Int32 → jI → jL → Prop, K = f_X1_goOn_L9  Z Q n := ⟨_, rfl⟩
    have hK9 := ih
    clear eK9 K9
    generalize f_X1_goOn_L9  Z Q n = K9 at hK9 h
    refine j_iload_n E dX1_goOn_9 3 rfl ?_
    refine j_aload_n E dX1_goOn_10 0 rfl ?_
    refine j_geti E 1 6 rfl rfl (by decide) (by decide) (iw iT_1) rfl rfl (tw W_130) kv0 dX1_goOn_11 ?_
    refine j_iconst E (v := 1) dX1_goOn_14 (by decide) ?_
    refine j_isub E dX1_goOn_15 ?_
    refine j_icmp_ge E 38 dX1_goOn_16 (by decide) (fun c33 => ?_) (fun c33 => ?_)
    · have h := h.1 c33
      refine j_sub [0, 1, 2, 3] rfl ?_
      exact m_X1_goOn_b38 E hZ  v0 v1 v2 v3 I L kv0 h
    · have h := h.2 c33
      refine j_aload_n E dX1_goOn_19 0 rfl ?_
      obtain ⟨b34, eb34, kb34, lb34⟩ := sh_f hZ kv0 (j := 1) (k := 15) (m := 6) rfl
      have h := h b34 eb34
      refine j_getr E 1 1 rfl rfl (by decide) (by decide) (iw iT_1) rfl rfl (tw W_137) kv0 eb34 dX1_goOn_20 ?_
      refine j_iload_n E dX1_goOn_23 1 rfl ?_
      obtain ⟨o35, h⟩ := h
      refine j_lald E kb34 (by rw [lb34]; exact o35) dX1_goOn_24 ?_
      refine j_iload_n E dX1_goOn_25 3 rfl ?_
      refine j_callSN E [.long (L b34 v1.toNatClampNeg), .int v3] [] (c_X11_treads (gL G) (gD G) (gY G) (L b34 v1.toNatClampNeg) v3 Z I L _ hZ  h) (gwN W_139) rfl (nm_X11_treads_X1_68) (tw W_40) (tw W_140) fy_X11_treads ⟨by decide, by decide⟩ rfl rfl (Nat.le_of_ble_eq_true rfl) ⟨Nat.zero_le _, Nat.zero_le _⟩ dX1_goOn_26 (fun v36 Z37 I38 L39 q40 => ?_)
      obtain ⟨rfl, r42, rfl, zr42, h⟩ := q40
      show jJ G 4 29 [(0, .ref v0), (1, .int v1), (2, .int v2), (3, .int v3)] [.int r42] Z I38 L39 0 0
      refine j_if_ne E 38 dX1_goOn_29 (by decide) (fun c43 => ?_) (fun c43 => ?_)
      · have h := h.1 c43
        refine j_sub [0, 1, 2, 3] rfl ?_
        exact m_X1_goOn_b38 E hZ  v0 v1 v2 v3 I38 L39 kv0 h
      · have h := h.2 c43
        obtain ⟨x44, ex44⟩ : ∃ y : Int32, y = v3 + 1 := ⟨_, rfl⟩
        have h := h x44 ex44
        refine j_iinc E x44 [(3, .int x44), (0, .ref v0), (1, .int v1), (2, .int v2)] dX1_goOn_32 3 rfl (by rw [ex44]; rfl) (by decide) rfl ?_
        refine j_goto E 9 dX1_goOn_35 (by decide) ?_
        refine j_sub [1, 2, 3, 0] rfl ?_
        exact hK9 v0 v1 v2 x44 I38 L39 kv0 h
set_option maxRecDepth 100000 in
def f_X1_goOn (v0 : Nat) (v1 : Int32) (v2 : Int32) (Z : jZ) (I : jI) (L : jL) (Q : jI → jL → Prop) : Prop := (∀ b45 : Nat, jr Z v0 2 = some b45 → (vp_in v1 6 ∧ (∀ x47 : Int32, x47 = ((I b45 v1.toNatClampNeg) + (1 : Int32)) → (∃ m9 : Nat, f_X1_goOn_L9  Z Q m9 v0 v1 v2 x47 I L))))
set_option maxHeartbeats 4000000 in
set_option maxRecDepth 100000 in
theorem c_X1_goOn (l : Launch) (D : va_G) (cy : jC) (v0 : Nat) (v1 : Int32) (v2 : Int32) (Z : jZ) (I : jI) (L : jL) (Q : jI → jL → Prop) (hZ : SH Z) (kv0 : jk Z v0 1) (h : f_X1_goOn v0 v1 v2 Z I L Q) : jCt l yX1_goOn w_X1_goOn { frames := 2, cells := 0, slots := 0, locals := 42 } D cy [.ref v0, .int v1, .int v2] Z I L (rtV Z Q) := by
  refine jCt_of (cc := cX1_goOn) (maxL := 4) (ret := none) (by decide +kernel) rfl (Nat.le_of_ble_eq_true rfl) ?_
  intro G eD eY eL E
  subst eD; subst eY; subst eL
  have E : jE G cX1_goOn RX1 w_X1_goOn 4 none { frames := 2, cells := 0, slots := 0, locals := 42 } (rtV Z Q) := E
  show jJ G 4 0 [(0, .ref v0), (1, .int v1), (2, .int v2)] [] Z I L 0 0
  refine j_aload_n E dX1_goOn_0 0 rfl ?_
  obtain ⟨b45, eb45, kb45, lb45⟩ := sh_f hZ kv0 (j := 2) (k := 14) (m := 6) rfl
  have h := h b45 eb45
  refine j_getr E 1 2 rfl rfl (by decide) (by decide) (iw iT_1) rfl rfl (tw W_127) kv0 eb45 dX1_goOn_1 ?_
  refine j_iload_n E dX1_goOn_4 1 rfl ?_
  obtain ⟨o46, h⟩ := h
  refine j_iald E kb45 (by rw [lb45]; exact o46) dX1_goOn_5 ?_
  refine j_iconst E (v := 1) dX1_goOn_6 (by decide) ?_
  refine j_iadd E dX1_goOn_7 ?_
  refine j_topi (fun x47 ex47 => ?_)
  have h := h x47 ex47
  refine j_istore_n E 3 [(3, .int x47), (0, .ref v0), (1, .int v1), (2, .int v2)] dX1_goOn_8 rfl (by decide) rfl ?_
  obtain ⟨n48, h⟩ := h
  refine j_sub [1, 2, 3, 0] rfl ?_
  exact m_X1_goOn_L9 E hZ  n48 v0 v1 v2 x47 I L kv0 h
set_option maxRecDepth 100000 in
def f_X1_passMinute_b45 (K7 : Nat → Int32 → Int32 → jI → jL → Prop) (K14 : Nat → Int32 → Int32 → Int32 → jI → jL → Prop) (Z : jZ) (Q : jI → jL → Prop) (v0 : Nat) (v1 : Int32) (v2 : Int32) (v3 : Int32) (I : jI) (L : jL) : Prop := (∀ x1 : Int32, x1 = v3 + 1 → K14 v0 v1 v2 x1 I L)
set_option maxHeartbeats 4000000 in
set_option maxRecDepth 100000 in
theorem m_X1_passMinute_b45 {G : jG} {Z : jZ} {Q : jI → jL → Prop} (E : jE G cX1_passMinute RX1 w_X1_passMinute 4 none { frames := 3, cells := 0, slots := 0, locals := 65 } (rtV Z Q)) (hZ : SH Z) (K7 : Nat → Int32 → Int32 → jI → jL → Prop) (hK7 : ∀ (v0 : Nat) (v1 : Int32) (v2 : Int32) (I : jI) (L : jL), jk Z v0 1 → K7 v0 v1 v2 I L → jJ G 4 7 [(0, .ref v0), (1, .int v1), (2, .int v2)] [] Z I L 0 0) (K14 : Nat → Int32 → Int32 → Int32 → jI → jL → Prop) (hK14 : ∀ (v0 : Nat) (v1 : Int32) (v2 : Int32) (v3 : Int32) (I : jI) (L : jL), jk Z v0 1 → K14 v0 v1 v2 v3 I L → jJ G 4 14 [(0, .ref v0), (1, .int v1), (2, .int v2), (3, .int v3)] [] Z I L 0 0) (v0 : Nat) (v1 : Int32) (v2 : Int32) (v3 : Int32) (I : jI) (L : jL) (kv0 : jk Z v0 1) (h : f_X1_passMinute_b45 K7 K14 Z Q v0 v1 v2 v3 I L) : jJ G 4 45 [(0, .ref v0), (1, .int v1), (2, .int v2), (3, .int v3)] [] Z I L 0 0 := by
  obtain ⟨x1, ex1⟩ : ∃ y : Int32, y = v3 + 1 := ⟨_, rfl⟩
  have h := h x1 ex1
  refine j_iinc E x1 [(3, .int x1), (0, .ref v0), (1, .int v1), (2, .int v2)] dX1_passMinute_45 3 rfl (by rw [ex1]; rfl) (by decide) rfl ?_
  refine j_goto E 14 dX1_passMinute_48 (by decide) ?_
  refine j_sub [1, 2, 3, 0] rfl ?_
  exact hK14 v0 v1 v2 x1 I L kv0 h
set_option maxRecDepth 100000 in
def f_X1_passMinute_L14 (K7 : Nat → Int32 → Int32 → jI → jL → Prop) (Z : jZ) (Q : jI → jL → Prop) : Nat → Nat → Int32 → Int32 → Int32 → jI → jL → Prop
  | 0 => fun _ _ _ _ _ _ => False
  | n + 1 => fun v0 v1 v2 v3 I L => (((6 : Int32) ≤ v3 → (∀ x3 : Int32, x3 = v2 + (-1) → K7 v0 v1 x3 I L)) ∧ (¬ ((6 : Int32) ≤ v3) → (∀ b4 : Nat, jr Z v0 0 = some b4 → (vp_in v3 6 ∧ (((I b4 v3.toNatClampNeg) = 0 → f_X1_passMinute_b45 K7 (f_X1_passMinute_L14 K7 Z Q n) Z Q v0 v1 v2 v3 I L) ∧ (¬ ((I b4 v3.toNatClampNeg) = 0) → (∀ b7 : Nat, jr Z v0 2 = some b7 → (vp_in v3 6 ∧ ((¬ (I b7 v3.toNatClampNeg) = v2 → f_X1_passMinute_b45 K7 (f_X1_passMinute_L14 K7 Z Q n) Z Q v0 v1 v2 v3 I L) ∧ ((I b7 v3.toNatClampNeg) = v2 → (f_X1_goOn v0 v3 v1 Z I L (fun I12 L13 => f_X1_passMinute_b45 K7 (f_X1_passMinute_L14 K7 Z Q n) Z Q v0 v1 v2 v3 I12 L13))))))))))))
set_option maxHeartbeats 4000000 in
set_option maxRecDepth 100000 in
theorem m_X1_passMinute_L14 {G : jG} {Z : jZ} {Q : jI → jL → Prop} (E : jE G cX1_passMinute RX1 w_X1_passMinute 4 none { frames := 3, cells := 0, slots := 0, locals := 65 } (rtV Z Q)) (hZ : SH Z) (K7 : Nat → Int32 → Int32 → jI → jL → Prop) (hK7 : ∀ (v0 : Nat) (v1 : Int32) (v2 : Int32) (I : jI) (L : jL), jk Z v0 1 → K7 v0 v1 v2 I L → jJ G 4 7 [(0, .ref v0), (1, .int v1), (2, .int v2)] [] Z I L 0 0) : ∀ (n : Nat) (v0 : Nat) (v1 : Int32) (v2 : Int32) (v3 : Int32) (I : jI) (L : jL), jk Z v0 1 → f_X1_passMinute_L14 K7 Z Q n v0 v1 v2 v3 I L → jJ G 4 14 [(0, .ref v0), (1, .int v1), (2, .int v2), (3, .int v3)] [] Z I L 0 0 := by
  intro n
  induction n with
  | zero => intro v0 v1 v2 v3 I L _ h; exact h.elim
  | succ n ih =>
    intro v0 v1 v2 v3 I L kv0 h
    have h : (((6 : Int32) ≤ v3 → (∀ x3 : Int32, x3 = v2 + (-1) → K7 v0 v1 x3 I L)) ∧ (¬ ((6 : Int32) ≤ v3) → (∀ b4 : Nat, jr Z v0 0 = some b4 → (vp_in v3 6 ∧ (((I b4 v3.toNatClampNeg) = 0 → f_X1_passMinute_b45 K7 (f_X1_passMinute_L14 K7 Z Q n) Z Q v0 v1 v2 v3 I L) ∧ (¬ ((I b4 v3.toNatClampNeg) = 0) → (∀ b7 : Nat, jr Z v0 2 = some b7 → (vp_in v3 6 ∧ ((¬ (I b7 v3.toNatClampNeg) = v2 → f_X1_passMinute_b45 K7 (f_X1_passMinute_L14 K7 Z Q n) Z Q v0 v1 v2 v3 I L) ∧ ((I b7 v3.toNatClampNeg) = v2 → (f_X1_goOn v0 v3 v1 Z I L (fun I12 L13 => f_X1_passMinute_b45 K7 (f_X1_passMinute_L14 K7 Z Q n) Z Q v0 v1 v2 v3 I12 L13)))))))))))) := h
    obtain ⟨K14, eK14⟩ : ∃ K : Nat → Int32 → Int32 → Int32 → jI → jL → Prop, K = f_X1_passMinute_L14 K7 Z Q n := ⟨_, rfl⟩
    have hK14 := ih
    clear eK14 K14
    generalize f_X1_passMinute_L14 K7 Z Q n = K14 at hK14 h
    refine j_iload_n E dX1_passMinute_14 3 rfl ?_
    refine j_bipush E (v := 6) dX1_passMinute_15 (by decide) ?_
    refine j_icmp_ge E 51 dX1_passMinute_17 (by decide) (fun c2 => ?_) (fun c2 => ?_)
    · have h := h.1 c2
      obtain ⟨x3, ex3⟩ : ∃ y : Int32, y = v2 + (-1) := ⟨_, rfl⟩
      have h := h x3 ex3
      refine j_iinc E x3 [(2, .int x3), (0, .ref v0), (1, .int v1), (3, .int v3)] dX1_passMinute_51 2 rfl (by rw [ex3]; rfl) (by decide) rfl ?_
      refine j_goto E 7 dX1_passMinute_54 (by decide) ?_
      refine j_sub [1, 2, 0] rfl ?_
      exact hK7 v0 v1 x3 I L kv0 h
    · have h := h.2 c2
      refine j_aload_n E dX1_passMinute_20 0 rfl ?_
      obtain ⟨b4, eb4, kb4, lb4⟩ := sh_f hZ kv0 (j := 0) (k := 16) (m := 6) rfl
      have h := h b4 eb4
      refine j_getr E 1 0 rfl rfl (by decide) (by decide) (iw iT_1) rfl rfl (tw W_126) kv0 eb4 dX1_passMinute_21 ?_
      refine j_iload_n E dX1_passMinute_24 3 rfl ?_
      obtain ⟨o5, h⟩ := h
      refine j_zald E kb4 (by rw [lb4]; exact o5) dX1_passMinute_25 ?_
      refine j_if_eq E 45 dX1_passMinute_26 (by decide) (fun c6 => ?_) (fun c6 => ?_)
      · have h := h.1 c6
        refine j_sub [0, 1, 2, 3] rfl ?_
        exact m_X1_passMinute_b45 E hZ K7 hK7 K14 hK14 v0 v1 v2 v3 I L kv0 h
      · have h := h.2 c6
        refine j_aload_n E dX1_passMinute_29 0 rfl ?_
        obtain ⟨b7, eb7, kb7, lb7⟩ := sh_f hZ kv0 (j := 2) (k := 14) (m := 6) rfl
        have h := h b7 eb7
        refine j_getr E 1 2 rfl rfl (by decide) (by decide) (iw iT_1) rfl rfl (tw W_127) kv0 eb7 dX1_passMinute_30 ?_
        refine j_iload_n E dX1_passMinute_33 3 rfl ?_
        obtain ⟨o8, h⟩ := h
        refine j_iald E kb7 (by rw [lb7]; exact o8) dX1_passMinute_34 ?_
        refine j_iload_n E dX1_passMinute_35 2 rfl ?_
        refine j_icmp_ne E 45 dX1_passMinute_36 (by decide) (fun c9 => ?_) (fun c9 => ?_)
        · have h := h.1 c9
          refine j_sub [0, 1, 2, 3] rfl ?_
          exact m_X1_passMinute_b45 E hZ K7 hK7 K14 hK14 v0 v1 v2 v3 I L kv0 h
        · have h := h.2 c9
          refine j_aload_n E dX1_passMinute_39 0 rfl ?_
          refine j_iload_n E dX1_passMinute_40 3 rfl ?_
          refine j_iload_n E dX1_passMinute_41 1 rfl ?_
          refine j_callV E [.int v3, .int v1] [] (c_X1_goOn (gL G) (gD G) (gY G) v0 v3 v1 Z I L _ hZ kv0 h) (gwV W_143 W_144 W_145 W_142 W_141) rfl ⟨rfl, fy_X1_goOn⟩ ⟨by decide, by decide⟩ (c := 1) rfl (by decide) kv0 rfl rfl (Nat.le_of_ble_eq_true rfl) ⟨Nat.zero_le _, Nat.zero_le _⟩ dX1_passMinute_42 (fun v10 Z11 I12 L13 q14 => ?_)
          obtain ⟨rfl, rfl, h⟩ := q14
          show jJ G 4 45 [(0, .ref v0), (1, .int v1), (2, .int v2), (3, .int v3)] [] Z I12 L13 0 0
          refine j_sub [0, 1, 2, 3] rfl ?_
          exact m_X1_passMinute_b45 E hZ K7 hK7 K14 hK14 v0 v1 v2 v3 I12 L13 kv0 h
set_option maxRecDepth 100000 in
def f_X1_passMinute_L7  (Z : jZ) (Q : jI → jL → Prop) : Nat → Nat → Int32 → Int32 → jI → jL → Prop
  | 0 => fun _ _ _ _ _ => False
  | n + 1 => fun v0 v1 v2 I L => ((v2 < (-1 : Int32) → Q I L) ∧ (¬ (v2 < (-1 : Int32)) → (∃ m14 : Nat, f_X1_passMinute_L14 (f_X1_passMinute_L7 Z Q n) Z Q m14 v0 v1 v2 (0 : Int32) I L)))
set_option maxHeartbeats 4000000 in
set_option maxRecDepth 100000 in
theorem m_X1_passMinute_L7 {G : jG} {Z : jZ} {Q : jI → jL → Prop} (E : jE G cX1_passMinute RX1 w_X1_passMinute 4 none { frames := 3, cells := 0, slots := 0, locals := 65 } (rtV Z Q)) (hZ : SH Z)  : ∀ (n : Nat) (v0 : Nat) (v1 : Int32) (v2 : Int32) (I : jI) (L : jL), jk Z v0 1 → f_X1_passMinute_L7  Z Q n v0 v1 v2 I L → jJ G 4 7 [(0, .ref v0), (1, .int v1), (2, .int v2)] [] Z I L 0 0 := by
  intro n
  induction n with
  | zero => intro v0 v1 v2 I L _ h; exact h.elim
  | succ n ih =>
    intro v0 v1 v2 I L kv0 h
    have h : ((v2 < (-1 : Int32) → Q I L) ∧ (¬ (v2 < (-1 : Int32)) → (∃ m14 : Nat, f_X1_passMinute_L14 (f_X1_passMinute_L7 Z Q n) Z Q m14 v0 v1 v2 (0 : Int32) I L))) := h
    obtain ⟨K7, eK7⟩ : ∃ K : Nat → Int32 → Int32 → jI → jL → Prop, K = f_X1_passMinute_L7  Z Q n := ⟨_, rfl⟩
    have hK7 := ih
    clear eK7 K7
    generalize f_X1_passMinute_L7  Z Q n = K7 at hK7 h
    refine j_iload_n E dX1_passMinute_7 2 rfl ?_
    refine j_iconst E (v := -1) dX1_passMinute_8 (by decide) ?_
    refine j_icmp_lt E 57 dX1_passMinute_9 (by decide) (fun c16 => ?_) (fun c16 => ?_)
    · have h := h.1 c16
      exact j_return E ⟨rfl, rfl, h⟩ (Nat.zero_le _) (Nat.zero_le _) dX1_passMinute_57
    · have h := h.2 c16
      refine j_iconst E (v := 0) dX1_passMinute_12 (by decide) ?_
      refine j_istore_n E 3 [(3, .int (0 : Int32)), (0, .ref v0), (1, .int v1), (2, .int v2)] dX1_passMinute_13 rfl (by decide) rfl ?_
      obtain ⟨n17, h⟩ := h
      refine j_sub [1, 2, 3, 0] rfl ?_
      exact m_X1_passMinute_L14 E hZ K7 hK7 n17 v0 v1 v2 (0 : Int32) I L kv0 h
set_option maxRecDepth 100000 in
def f_X1_passMinute (v0 : Nat) (v1 : Int32) (Z : jZ) (I : jI) (L : jL) (Q : jI → jL → Prop) : Prop := (∀ x18 : Int32, x18 = ((I v0 6) - (2 : Int32)) → (∃ m7 : Nat, f_X1_passMinute_L7  Z Q m7 v0 v1 x18 I L))
set_option maxHeartbeats 4000000 in
set_option maxRecDepth 100000 in
theorem c_X1_passMinute (l : Launch) (D : va_G) (cy : jC) (v0 : Nat) (v1 : Int32) (Z : jZ) (I : jI) (L : jL) (Q : jI → jL → Prop) (hZ : SH Z) (kv0 : jk Z v0 1) (h : f_X1_passMinute v0 v1 Z I L Q) : jCt l yX1_passMinute w_X1_passMinute { frames := 3, cells := 0, slots := 0, locals := 65 } D cy [.ref v0, .int v1] Z I L (rtV Z Q) := by
  refine jCt_of (cc := cX1_passMinute) (maxL := 4) (ret := none) (by decide +kernel) rfl (Nat.le_of_ble_eq_true rfl) ?_
  intro G eD eY eL E
  subst eD; subst eY; subst eL
  have E : jE G cX1_passMinute RX1 w_X1_passMinute 4 none { frames := 3, cells := 0, slots := 0, locals := 65 } (rtV Z Q) := E
  show jJ G 4 0 [(0, .ref v0), (1, .int v1)] [] Z I L 0 0
  refine j_aload_n E dX1_passMinute_0 0 rfl ?_
  refine j_geti E 1 6 rfl rfl (by decide) (by decide) (iw iT_1) rfl rfl (tw W_130) kv0 dX1_passMinute_1 ?_
  refine j_iconst E (v := 2) dX1_passMinute_4 (by decide) ?_
  refine j_isub E dX1_passMinute_5 ?_
  refine j_topi (fun x18 ex18 => ?_)
  have h := h x18 ex18
  refine j_istore_n E 2 [(2, .int x18), (0, .ref v0), (1, .int v1)] dX1_passMinute_6 rfl (by decide) rfl ?_
  obtain ⟨n19, h⟩ := h
  refine j_sub [1, 2, 0] rfl ?_
  exact m_X1_passMinute_L7 E hZ  n19 v0 v1 x18 I L kv0 h
set_option maxRecDepth 100000 in
def f_X1_run_L33 (K2 : Nat → Int32 → Int32 → jI → jL → Prop) (Z : jZ) (Q : jI → jL → Prop) : Nat → Nat → Int32 → Int32 → Int32 → jI → jL → Prop
  | 0 => fun _ _ _ _ _ _ => False
  | n + 1 => fun v0 v1 v2 v3 I L => ((((I v0 6) - (1 : Int32)) ≤ v3 → (∀ x2 : Int32, x2 = v2 + 1 → K2 v0 v1 x2 I L)) ∧ (¬ (((I v0 6) - (1 : Int32)) ≤ v3) → (∀ b3 : Nat, jr Z v0 4 = some b3 → (vp_in v3 24 ∧ (∀ I5 : jI, I5 = jpI I v0 9 (if (I v0 9) < (I b3 v3.toNatClampNeg) then (I b3 v3.toNatClampNeg) else (I v0 9)) → (∀ x6 : Int32, x6 = v3 + 1 → (f_X1_run_L33 K2 Z Q n) v0 v1 v2 x6 I5 L))))))
set_option maxHeartbeats 4000000 in
set_option maxRecDepth 100000 in
theorem m_X1_run_L33 {G : jG} {Z : jZ} {Q : jI → jL → Prop} (E : jE G cX1_run RX1 w_X1_run 4 none { frames := 4, cells := 0, slots := 0, locals := 88 } (rtV Z Q)) (hZ : SH Z) (K2 : Nat → Int32 → Int32 → jI → jL → Prop) (hK2 : ∀ (v0 : Nat) (v1 : Int32) (v2 : Int32) (I : jI) (L : jL), jk Z v0 1 → K2 v0 v1 v2 I L → jJ G 4 2 [(0, .ref v0), (1, .int v1), (2, .int v2)] [] Z I L 0 0) : ∀ (n : Nat) (v0 : Nat) (v1 : Int32) (v2 : Int32) (v3 : Int32) (I : jI) (L : jL), jk Z v0 1 → f_X1_run_L33 K2 Z Q n v0 v1 v2 v3 I L → jJ G 4 33 [(0, .ref v0), (1, .int v1), (2, .int v2), (3, .int v3)] [] Z I L 0 0 := by
  intro n
  induction n with
  | zero => intro v0 v1 v2 v3 I L _ h; exact h.elim
  | succ n ih =>
    intro v0 v1 v2 v3 I L kv0 h
    have h : ((((I v0 6) - (1 : Int32)) ≤ v3 → (∀ x2 : Int32, x2 = v2 + 1 → K2 v0 v1 x2 I L)) ∧ (¬ (((I v0 6) - (1 : Int32)) ≤ v3) → (∀ b3 : Nat, jr Z v0 4 = some b3 → (vp_in v3 24 ∧ (∀ I5 : jI, I5 = jpI I v0 9 (if (I v0 9) < (I b3 v3.toNatClampNeg) then (I b3 v3.toNatClampNeg) else (I v0 9)) → (∀ x6 : Int32, x6 = v3 + 1 → (f_X1_run_L33 K2 Z Q n) v0 v1 v2 x6 I5 L)))))) := h
    obtain ⟨K33, eK33⟩ : ∃ K : Nat → Int32 → Int32 → Int32 → jI → jL → Prop, K = f_X1_run_L33 K2 Z Q n := ⟨_, rfl⟩
    have hK33 := ih
    clear eK33 K33
    generalize f_X1_run_L33 K2 Z Q n = K33 at hK33 h
    refine j_iload_n E dX1_run_33 3 rfl ?_
    refine j_aload_n E dX1_run_34 0 rfl ?_
    refine j_geti E 1 6 rfl rfl (by decide) (by decide) (iw iT_1) rfl rfl (tw W_130) kv0 dX1_run_35 ?_
    refine j_iconst E (v := 1) dX1_run_38 (by decide) ?_
    refine j_isub E dX1_run_39 ?_
    refine j_icmp_ge E 66 dX1_run_40 (by decide) (fun c1 => ?_) (fun c1 => ?_)
    · have h := h.1 c1
      obtain ⟨x2, ex2⟩ : ∃ y : Int32, y = v2 + 1 := ⟨_, rfl⟩
      have h := h x2 ex2
      refine j_iinc E x2 [(2, .int x2), (0, .ref v0), (1, .int v1), (3, .int v3)] dX1_run_66 2 rfl (by rw [ex2]; rfl) (by decide) rfl ?_
      refine j_goto E 2 dX1_run_69 (by decide) ?_
      refine j_sub [1, 2, 0] rfl ?_
      exact hK2 v0 v1 x2 I L kv0 h
    · have h := h.2 c1
      refine j_aload_n E dX1_run_43 0 rfl ?_
      refine j_aload_n E dX1_run_44 0 rfl ?_
      refine j_geti E 1 9 rfl rfl (by decide) (by decide) (iw iT_1) rfl rfl (tw W_133) kv0 dX1_run_45 ?_
      refine j_aload_n E dX1_run_48 0 rfl ?_
      obtain ⟨b3, eb3, kb3, lb3⟩ := sh_f hZ kv0 (j := 4) (k := 14) (m := 24) rfl
      have h := h b3 eb3
      refine j_getr E 1 4 rfl rfl (by decide) (by decide) (iw iT_1) rfl rfl (tw W_134) kv0 eb3 dX1_run_49 ?_
      refine j_iload_n E dX1_run_52 3 rfl ?_
      obtain ⟨o4, h⟩ := h
      refine j_iald E kb3 (by rw [lb3]; exact o4) dX1_run_53 ?_
      refine j_max E (tw W_146) (tw W_147) (tw W_8) (tw W_148) (Nat.le_of_ble_eq_true rfl) (Nat.le_of_ble_eq_true rfl) (Nat.zero_le _) (Nat.zero_le _) dX1_run_54 ?_
      refine j_puti E 1 9 rfl rfl (by decide) (by decide) (iw iT_1) tyX1_ok nmX1 rfl rfl (tw W_133) rfl rfl rfl kv0 dX1_run_57 ?_
      refine j_nmI (fun I5 eI5 => ?_)
      have h := h I5 eI5
      obtain ⟨x6, ex6⟩ : ∃ y : Int32, y = v3 + 1 := ⟨_, rfl⟩
      have h := h x6 ex6
      refine j_iinc E x6 [(3, .int x6), (0, .ref v0), (1, .int v1), (2, .int v2)] dX1_run_60 3 rfl (by rw [ex6]; rfl) (by decide) rfl ?_
      refine j_goto E 33 dX1_run_63 (by decide) ?_
      refine j_sub [1, 2, 3, 0] rfl ?_
      exact hK33 v0 v1 v2 x6 I5 L kv0 h
set_option maxRecDepth 100000 in
def f_X1_run_L2  (Z : jZ) (Q : jI → jL → Prop) : Nat → Nat → Int32 → Int32 → jI → jL → Prop
  | 0 => fun _ _ _ _ _ => False
  | n + 1 => fun v0 v1 v2 I L => (((1000 : Int32) ≤ v2 → Q I L) ∧ (¬ ((1000 : Int32) ≤ v2) → (((I v0 7) ≤ 0 → Q I L) ∧ (¬ ((I v0 7) ≤ 0) → (f_X1_passMinute v0 v1 Z I L (fun I11 L12 => (∀ I15 : jI, I15 = jpI I11 v0 8 ((I11 v0 8) + (1 : Int32)) → (∃ m33 : Nat, f_X1_run_L33 (f_X1_run_L2 Z Q n) Z Q m33 v0 v1 v2 (0 : Int32) I15 L12))))))))
set_option maxHeartbeats 4000000 in
set_option maxRecDepth 100000 in
theorem m_X1_run_L2 {G : jG} {Z : jZ} {Q : jI → jL → Prop} (E : jE G cX1_run RX1 w_X1_run 4 none { frames := 4, cells := 0, slots := 0, locals := 88 } (rtV Z Q)) (hZ : SH Z)  : ∀ (n : Nat) (v0 : Nat) (v1 : Int32) (v2 : Int32) (I : jI) (L : jL), jk Z v0 1 → f_X1_run_L2  Z Q n v0 v1 v2 I L → jJ G 4 2 [(0, .ref v0), (1, .int v1), (2, .int v2)] [] Z I L 0 0 := by
  intro n
  induction n with
  | zero => intro v0 v1 v2 I L _ h; exact h.elim
  | succ n ih =>
    intro v0 v1 v2 I L kv0 h
    have h : (((1000 : Int32) ≤ v2 → Q I L) ∧ (¬ ((1000 : Int32) ≤ v2) → (((I v0 7) ≤ 0 → Q I L) ∧ (¬ ((I v0 7) ≤ 0) → (f_X1_passMinute v0 v1 Z I L (fun I11 L12 => (∀ I15 : jI, I15 = jpI I11 v0 8 ((I11 v0 8) + (1 : Int32)) → (∃ m33 : Nat, f_X1_run_L33 (f_X1_run_L2 Z Q n) Z Q m33 v0 v1 v2 (0 : Int32) I15 L12)))))))) := h
    obtain ⟨K2, eK2⟩ : ∃ K : Nat → Int32 → Int32 → jI → jL → Prop, K = f_X1_run_L2  Z Q n := ⟨_, rfl⟩
    have hK2 := ih
    clear eK2 K2
    generalize f_X1_run_L2  Z Q n = K2 at hK2 h
    refine j_iload_n E dX1_run_2 2 rfl ?_
    refine j_sipush E (v := 1000) dX1_run_3 (by decide) ?_
    refine j_icmp_ge E 72 dX1_run_6 (by decide) (fun c7 => ?_) (fun c7 => ?_)
    · have h := h.1 c7
      exact j_return E ⟨rfl, rfl, h⟩ (Nat.zero_le _) (Nat.zero_le _) dX1_run_72
    · have h := h.2 c7
      refine j_aload_n E dX1_run_9 0 rfl ?_
      refine j_geti E 1 7 rfl rfl (by decide) (by decide) (iw iT_1) rfl rfl (tw W_131) kv0 dX1_run_10 ?_
      refine j_if_le E 72 dX1_run_13 (by decide) (fun c8 => ?_) (fun c8 => ?_)
      · have h := h.1 c8
        exact j_return E ⟨rfl, rfl, h⟩ (Nat.zero_le _) (Nat.zero_le _) dX1_run_72
      · have h := h.2 c8
        refine j_aload_n E dX1_run_16 0 rfl ?_
        refine j_iload_n E dX1_run_17 1 rfl ?_
        refine j_callV E [.int v1] [] (c_X1_passMinute (gL G) (gD G) (gY G) v0 v1 Z I L _ hZ kv0 h) (gwV W_150 W_151 W_152 W_142 W_149) rfl ⟨rfl, fy_X1_passMinute⟩ ⟨by decide, by decide⟩ (c := 1) rfl (by decide) kv0 rfl rfl (Nat.le_of_ble_eq_true rfl) ⟨Nat.zero_le _, Nat.zero_le _⟩ dX1_run_18 (fun v9 Z10 I11 L12 q13 => ?_)
        obtain ⟨rfl, rfl, h⟩ := q13
        show jJ G 4 21 [(0, .ref v0), (1, .int v1), (2, .int v2)] [] Z I11 L12 0 0
        refine j_aload_n E dX1_run_21 0 rfl ?_
        refine j_dup E dX1_run_22 rfl ?_
        refine j_geti E 1 8 rfl rfl (by decide) (by decide) (iw iT_1) rfl rfl (tw W_132) kv0 dX1_run_23 ?_
        refine j_iconst E (v := 1) dX1_run_26 (by decide) ?_
        refine j_iadd E dX1_run_27 ?_
        refine j_puti E 1 8 rfl rfl (by decide) (by decide) (iw iT_1) tyX1_ok nmX1 rfl rfl (tw W_132) rfl rfl rfl kv0 dX1_run_28 ?_
        refine j_nmI (fun I15 eI15 => ?_)
        have h := h I15 eI15
        refine j_iconst E (v := 0) dX1_run_31 (by decide) ?_
        refine j_istore_n E 3 [(3, .int (0 : Int32)), (0, .ref v0), (1, .int v1), (2, .int v2)] dX1_run_32 rfl (by decide) rfl ?_
        obtain ⟨n16, h⟩ := h
        refine j_sub [1, 2, 3, 0] rfl ?_
        exact m_X1_run_L33 E hZ K2 hK2 n16 v0 v1 v2 (0 : Int32) I15 L12 kv0 h
set_option maxRecDepth 100000 in
def f_X1_run (v0 : Nat) (v1 : Int32) (Z : jZ) (I : jI) (L : jL) (Q : jI → jL → Prop) : Prop := (∃ m2 : Nat, f_X1_run_L2  Z Q m2 v0 v1 (0 : Int32) I L)
set_option maxHeartbeats 4000000 in
set_option maxRecDepth 100000 in
theorem c_X1_run (l : Launch) (D : va_G) (cy : jC) (v0 : Nat) (v1 : Int32) (Z : jZ) (I : jI) (L : jL) (Q : jI → jL → Prop) (hZ : SH Z) (kv0 : jk Z v0 1) (h : f_X1_run v0 v1 Z I L Q) : jCt l yX1_run w_X1_run { frames := 4, cells := 0, slots := 0, locals := 88 } D cy [.ref v0, .int v1] Z I L (rtV Z Q) := by
  refine jCt_of (cc := cX1_run) (maxL := 4) (ret := none) (by decide +kernel) rfl (Nat.le_of_ble_eq_true rfl) ?_
  intro G eD eY eL E
  subst eD; subst eY; subst eL
  have E : jE G cX1_run RX1 w_X1_run 4 none { frames := 4, cells := 0, slots := 0, locals := 88 } (rtV Z Q) := E
  show jJ G 4 0 [(0, .ref v0), (1, .int v1)] [] Z I L 0 0
  refine j_iconst E (v := 0) dX1_run_0 (by decide) ?_
  refine j_istore_n E 2 [(2, .int (0 : Int32)), (0, .ref v0), (1, .int v1)] dX1_run_1 rfl (by decide) rfl ?_
  obtain ⟨n17, h⟩ := h
  refine j_sub [1, 2, 0] rfl ?_
  exact m_X1_run_L2 E hZ  n17 v0 v1 (0 : Int32) I L kv0 h
set_option maxRecDepth 100000 in
def f_X1_longestWaiting_b36 (K4 : Nat → Int32 → Int32 → jI → jL → Prop) (Z : jZ) (Q : Int32 → jI → jL → Prop) (v0 : Nat) (v1 : Int32) (v2 : Int32) (I : jI) (L : jL) : Prop := (∀ x1 : Int32, x1 = v2 + 1 → K4 v0 v1 x1 I L)
set_option maxHeartbeats 4000000 in
set_option maxRecDepth 100000 in
theorem m_X1_longestWaiting_b36 {G : jG} {Z : jZ} {Q : Int32 → jI → jL → Prop} (E : jE G cX1_longestWaiting RX1 w_X1_longestWaiting 3 (some .int) { frames := 0, cells := 0, slots := 0, locals := 0 } (rtI Z Q)) (hZ : SH Z) (K4 : Nat → Int32 → Int32 → jI → jL → Prop) (hK4 : ∀ (v0 : Nat) (v1 : Int32) (v2 : Int32) (I : jI) (L : jL), jk Z v0 1 → K4 v0 v1 v2 I L → jJ G 3 4 [(0, .ref v0), (1, .int v1), (2, .int v2)] [] Z I L 0 0) (v0 : Nat) (v1 : Int32) (v2 : Int32) (I : jI) (L : jL) (kv0 : jk Z v0 1) (h : f_X1_longestWaiting_b36 K4 Z Q v0 v1 v2 I L) : jJ G 3 36 [(0, .ref v0), (1, .int v1), (2, .int v2)] [] Z I L 0 0 := by
  obtain ⟨x1, ex1⟩ : ∃ y : Int32, y = v2 + 1 := ⟨_, rfl⟩
  have h := h x1 ex1
  refine j_iinc E x1 [(2, .int x1), (0, .ref v0), (1, .int v1)] dX1_longestWaiting_36 2 rfl (by rw [ex1]; rfl) (by decide) rfl ?_
  refine j_goto E 4 dX1_longestWaiting_39 (by decide) ?_
  refine j_sub [1, 2, 0] rfl ?_
  exact hK4 v0 v1 x1 I L kv0 h
set_option maxRecDepth 100000 in
def f_X1_longestWaiting_b31 (K4 : Nat → Int32 → Int32 → jI → jL → Prop) (Z : jZ) (Q : Int32 → jI → jL → Prop) (v0 : Nat) (v1 : Int32) (v2 : Int32) (s0 : Int32) (s1 : Int32) (I : jI) (L : jL) : Prop := ((s0 ≤ s1 → f_X1_longestWaiting_b36 K4 Z Q v0 v1 v2 I L) ∧ (¬ (s0 ≤ s1) → f_X1_longestWaiting_b36 K4 Z Q v0 v2 v2 I L))
set_option maxHeartbeats 4000000 in
set_option maxRecDepth 100000 in
theorem m_X1_longestWaiting_b31 {G : jG} {Z : jZ} {Q : Int32 → jI → jL → Prop} (E : jE G cX1_longestWaiting RX1 w_X1_longestWaiting 3 (some .int) { frames := 0, cells := 0, slots := 0, locals := 0 } (rtI Z Q)) (hZ : SH Z) (K4 : Nat → Int32 → Int32 → jI → jL → Prop) (hK4 : ∀ (v0 : Nat) (v1 : Int32) (v2 : Int32) (I : jI) (L : jL), jk Z v0 1 → K4 v0 v1 v2 I L → jJ G 3 4 [(0, .ref v0), (1, .int v1), (2, .int v2)] [] Z I L 0 0) (v0 : Nat) (v1 : Int32) (v2 : Int32) (s0 : Int32) (s1 : Int32) (I : jI) (L : jL) (kv0 : jk Z v0 1) (h : f_X1_longestWaiting_b31 K4 Z Q v0 v1 v2 s0 s1 I L) : jJ G 3 31 [(0, .ref v0), (1, .int v1), (2, .int v2)] [.int s1, .int s0] Z I L 0 0 := by
  refine j_icmp_le E 36 dX1_longestWaiting_31 (by decide) (fun c2 => ?_) (fun c2 => ?_)
  · have h := h.1 c2
    refine j_sub [0, 1, 2] rfl ?_
    exact m_X1_longestWaiting_b36 E hZ K4 hK4 v0 v1 v2 I L kv0 h
  · have h := h.2 c2
    refine j_iload_n E dX1_longestWaiting_34 2 rfl ?_
    refine j_istore_n E 1 [(1, .int v2), (0, .ref v0), (2, .int v2)] dX1_longestWaiting_35 rfl (by decide) rfl ?_
    refine j_sub [1, 0, 2] rfl ?_
    exact m_X1_longestWaiting_b36 E hZ K4 hK4 v0 v2 v2 I L kv0 h
set_option maxRecDepth 100000 in
def f_X1_longestWaiting_L4  (Z : jZ) (Q : Int32 → jI → jL → Prop) : Nat → Nat → Int32 → Int32 → jI → jL → Prop
  | 0 => fun _ _ _ _ _ => False
  | n + 1 => fun v0 v1 v2 I L => (((6 : Int32) ≤ v2 → Q v1 I L) ∧ (¬ ((6 : Int32) ≤ v2) → (∀ b4 : Nat, jr Z v0 3 = some b4 → (vp_in v2 6 ∧ ((¬ v1 = (-1 : Int32) → (∀ b7 : Nat, jr Z v0 3 = some b7 → (vp_in v1 6 ∧ f_X1_longestWaiting_b31 (f_X1_longestWaiting_L4 Z Q n) Z Q v0 v1 v2 (I b4 v2.toNatClampNeg) (I b7 v1.toNatClampNeg) I L))) ∧ (v1 = (-1 : Int32) → f_X1_longestWaiting_b31 (f_X1_longestWaiting_L4 Z Q n) Z Q v0 v1 v2 (I b4 v2.toNatClampNeg) (0 : Int32) I L))))))
set_option maxHeartbeats 4000000 in
set_option maxRecDepth 100000 in
theorem m_X1_longestWaiting_L4 {G : jG} {Z : jZ} {Q : Int32 → jI → jL → Prop} (E : jE G cX1_longestWaiting RX1 w_X1_longestWaiting 3 (some .int) { frames := 0, cells := 0, slots := 0, locals := 0 } (rtI Z Q)) (hZ : SH Z)  : ∀ (n : Nat) (v0 : Nat) (v1 : Int32) (v2 : Int32) (I : jI) (L : jL), jk Z v0 1 → f_X1_longestWaiting_L4  Z Q n v0 v1 v2 I L → jJ G 3 4 [(0, .ref v0), (1, .int v1), (2, .int v2)] [] Z I L 0 0 := by
  intro n
  induction n with
  | zero => intro v0 v1 v2 I L _ h; exact h.elim
  | succ n ih =>
    intro v0 v1 v2 I L kv0 h
    have h : (((6 : Int32) ≤ v2 → Q v1 I L) ∧ (¬ ((6 : Int32) ≤ v2) → (∀ b4 : Nat, jr Z v0 3 = some b4 → (vp_in v2 6 ∧ ((¬ v1 = (-1 : Int32) → (∀ b7 : Nat, jr Z v0 3 = some b7 → (vp_in v1 6 ∧ f_X1_longestWaiting_b31 (f_X1_longestWaiting_L4 Z Q n) Z Q v0 v1 v2 (I b4 v2.toNatClampNeg) (I b7 v1.toNatClampNeg) I L))) ∧ (v1 = (-1 : Int32) → f_X1_longestWaiting_b31 (f_X1_longestWaiting_L4 Z Q n) Z Q v0 v1 v2 (I b4 v2.toNatClampNeg) (0 : Int32) I L)))))) := h
    obtain ⟨K4, eK4⟩ : ∃ K : Nat → Int32 → Int32 → jI → jL → Prop, K = f_X1_longestWaiting_L4  Z Q n := ⟨_, rfl⟩
    have hK4 := ih
    clear eK4 K4
    generalize f_X1_longestWaiting_L4  Z Q n = K4 at hK4 h
    refine j_iload_n E dX1_longestWaiting_4 2 rfl ?_
    refine j_bipush E (v := 6) dX1_longestWaiting_5 (by decide) ?_
    refine j_icmp_ge E 42 dX1_longestWaiting_7 (by decide) (fun c3 => ?_) (fun c3 => ?_)
    · have h := h.1 c3
      refine j_iload_n E dX1_longestWaiting_42 1 rfl ?_
      exact j_ireturn E ⟨rfl, _, rfl, h⟩ (Nat.zero_le _) (Nat.zero_le _) dX1_longestWaiting_43
    · have h := h.2 c3
      refine j_aload_n E dX1_longestWaiting_10 0 rfl ?_
      obtain ⟨b4, eb4, kb4, lb4⟩ := sh_f hZ kv0 (j := 3) (k := 14) (m := 6) rfl
      have h := h b4 eb4
      refine j_getr E 1 3 rfl rfl (by decide) (by decide) (iw iT_1) rfl rfl (tw W_128) kv0 eb4 dX1_longestWaiting_11 ?_
      refine j_iload_n E dX1_longestWaiting_14 2 rfl ?_
      obtain ⟨o5, h⟩ := h
      refine j_iald E kb4 (by rw [lb4]; exact o5) dX1_longestWaiting_15 ?_
      refine j_iload_n E dX1_longestWaiting_16 1 rfl ?_
      refine j_iconst E (v := -1) dX1_longestWaiting_17 (by decide) ?_
      refine j_icmp_ne E 25 dX1_longestWaiting_18 (by decide) (fun c6 => ?_) (fun c6 => ?_)
      · have h := h.1 c6
        refine j_aload_n E dX1_longestWaiting_25 0 rfl ?_
        obtain ⟨b7, eb7, kb7, lb7⟩ := sh_f hZ kv0 (j := 3) (k := 14) (m := 6) rfl
        have h := h b7 eb7
        refine j_getr E 1 3 rfl rfl (by decide) (by decide) (iw iT_1) rfl rfl (tw W_128) kv0 eb7 dX1_longestWaiting_26 ?_
        refine j_iload_n E dX1_longestWaiting_29 1 rfl ?_
        obtain ⟨o8, h⟩ := h
        refine j_iald E kb7 (by rw [lb7]; exact o8) dX1_longestWaiting_30 ?_
        refine j_sub [0, 1, 2] rfl ?_
        exact m_X1_longestWaiting_b31 E hZ K4 hK4 v0 v1 v2 (I b4 v2.toNatClampNeg) (I b7 v1.toNatClampNeg) I L kv0 h
      · have h := h.2 c6
        refine j_iconst E (v := 0) dX1_longestWaiting_21 (by decide) ?_
        refine j_goto E 31 dX1_longestWaiting_22 (by decide) ?_
        refine j_sub [0, 1, 2] rfl ?_
        exact m_X1_longestWaiting_b31 E hZ K4 hK4 v0 v1 v2 (I b4 v2.toNatClampNeg) (0 : Int32) I L kv0 h
set_option maxRecDepth 100000 in
def f_X1_longestWaiting (v0 : Nat) (Z : jZ) (I : jI) (L : jL) (Q : Int32 → jI → jL → Prop) : Prop := (∃ m4 : Nat, f_X1_longestWaiting_L4  Z Q m4 v0 (-1 : Int32) (0 : Int32) I L)
set_option maxHeartbeats 4000000 in
set_option maxRecDepth 100000 in
theorem c_X1_longestWaiting (l : Launch) (D : va_G) (cy : jC) (v0 : Nat) (Z : jZ) (I : jI) (L : jL) (Q : Int32 → jI → jL → Prop) (hZ : SH Z) (kv0 : jk Z v0 1) (h : f_X1_longestWaiting v0 Z I L Q) : jCt l yX1_longestWaiting w_X1_longestWaiting { frames := 0, cells := 0, slots := 0, locals := 0 } D cy [.ref v0] Z I L (rtI Z Q) := by
  refine jCt_of (cc := cX1_longestWaiting) (maxL := 3) (ret := (some .int)) (by decide +kernel) rfl (Nat.le_of_ble_eq_true rfl) ?_
  intro G eD eY eL E
  subst eD; subst eY; subst eL
  have E : jE G cX1_longestWaiting RX1 w_X1_longestWaiting 3 (some .int) { frames := 0, cells := 0, slots := 0, locals := 0 } (rtI Z Q) := E
  show jJ G 3 0 [(0, .ref v0)] [] Z I L 0 0
  refine j_iconst E (v := -1) dX1_longestWaiting_0 (by decide) ?_
  refine j_istore_n E 1 [(1, .int (-1 : Int32)), (0, .ref v0)] dX1_longestWaiting_1 rfl (by decide) rfl ?_
  refine j_iconst E (v := 0) dX1_longestWaiting_2 (by decide) ?_
  refine j_istore_n E 2 [(2, .int (0 : Int32)), (1, .int (-1 : Int32)), (0, .ref v0)] dX1_longestWaiting_3 rfl (by decide) rfl ?_
  obtain ⟨n9, h⟩ := h
  refine j_sub [2, 1, 0] rfl ?_
  exact m_X1_longestWaiting_L4 E hZ  n9 v0 (-1 : Int32) (0 : Int32) I L kv0 h
set_option maxRecDepth 100000 in
def f_X2_putStairs (v0 : Nat) (v1 : Nat) (Z : jZ) (I : jI) (L : jL) (Q : jI → jL → Prop) : Prop := (∀ b1 : Nat, jr Z v1 1 = some b1 → (∀ b2 : Nat, jr Z v0 0 = some b2 → ((¬ (0 : Int32) < 0 ∧ ¬ (0 : Int32) < 0 ∧ ¬ (24 : Int32) < 0 ∧ (0 : Int32).toNatClampNeg + (24 : Int32).toNatClampNeg ≤ 24 ∧ (0 : Int32).toNatClampNeg + (24 : Int32).toNatClampNeg ≤ 24) ∧ (∀ I4 : jI, I4 = va_up I b2 (va_cpy (I b1) (I b2) (0 : Int32).toNatClampNeg (0 : Int32).toNatClampNeg (24 : Int32).toNatClampNeg) → (∀ b5 : Nat, jr Z v1 2 = some b5 → (∀ b6 : Nat, jr Z v0 1 = some b6 → ((¬ (0 : Int32) < 0 ∧ ¬ (0 : Int32) < 0 ∧ ¬ (24 : Int32) < 0 ∧ (0 : Int32).toNatClampNeg + (24 : Int32).toNatClampNeg ≤ 24 ∧ (0 : Int32).toNatClampNeg + (24 : Int32).toNatClampNeg ≤ 24) ∧ (∀ I8 : jI, I8 = va_up I4 b6 (va_cpy (I4 b5) (I4 b6) (0 : Int32).toNatClampNeg (0 : Int32).toNatClampNeg (24 : Int32).toNatClampNeg) → (∀ b9 : Nat, jr Z v1 4 = some b9 → (∀ b10 : Nat, jr Z b9 0 = some b10 → (∀ b11 : Nat, jr Z v0 2 = some b11 → ((¬ (0 : Int32) < 0 ∧ ¬ (0 : Int32) < 0 ∧ ¬ (192 : Int32) < 0 ∧ (0 : Int32).toNatClampNeg + (192 : Int32).toNatClampNeg ≤ 192 ∧ (0 : Int32).toNatClampNeg + (192 : Int32).toNatClampNeg ≤ 192) ∧ (∀ I13 : jI, I13 = va_up I8 b11 (va_cpy (I8 b10) (I8 b11) (0 : Int32).toNatClampNeg (0 : Int32).toNatClampNeg (192 : Int32).toNatClampNeg) → Q I13 L)))))))))))))
set_option maxHeartbeats 4000000 in
set_option maxRecDepth 100000 in
theorem c_X2_putStairs (l : Launch) (D : va_G) (cy : jC) (v0 : Nat) (v1 : Nat) (Z : jZ) (I : jI) (L : jL) (Q : jI → jL → Prop) (hZ : SH Z) (kv0 : jk Z v0 2) (kv1 : jk Z v1 8) (h : f_X2_putStairs v0 v1 Z I L Q) : jCt l yX2_putStairs w_X2_putStairs { frames := 1, cells := 0, slots := 0, locals := 48 } D cy [.ref v0, .ref v1] Z I L (rtV Z Q) := by
  refine jCt_of (cc := cX2_putStairs) (maxL := 2) (ret := none) (by decide +kernel) rfl (Nat.le_of_ble_eq_true rfl) ?_
  intro G eD eY eL E
  subst eD; subst eY; subst eL
  have E : jE G cX2_putStairs RX2 w_X2_putStairs 2 none { frames := 1, cells := 0, slots := 0, locals := 48 } (rtV Z Q) := E
  show jJ G 2 0 [(0, .ref v0), (1, .ref v1)] [] Z I L 0 0
  refine j_aload_n E dX2_putStairs_0 1 rfl ?_
  obtain ⟨b1, eb1, kb1, lb1⟩ := sh_f hZ kv1 (j := 1) (k := 14) (m := 24) rfl
  have h := h b1 eb1
  refine j_getrN E 8 1 rfl rfl (by decide) (by decide) (iw iT_8) rfl rfl (nw_8_1_X2_41) kv1 eb1 dX2_putStairs_1 ?_
  refine j_iconst E (v := 0) dX2_putStairs_4 (by decide) ?_
  refine j_aload_n E dX2_putStairs_5 0 rfl ?_
  obtain ⟨b2, eb2, kb2, lb2⟩ := sh_f hZ kv0 (j := 0) (k := 14) (m := 24) rfl
  have h := h b2 eb2
  refine j_getr E 2 0 rfl rfl (by decide) (by decide) (iw iT_2) rfl rfl (tw W_153) kv0 eb2 dX2_putStairs_6 ?_
  refine j_iconst E (v := 0) dX2_putStairs_9 (by decide) ?_
  refine j_bipush E (v := 24) dX2_putStairs_10 (by decide) ?_
  obtain ⟨o3, h⟩ := h
  refine j_copyi E (tw W_154) (tw W_11) (tw W_12) (tw W_13) kb1 kb2 o3.1 o3.2.1 o3.2.2.1 (by rw [lb1]; exact o3.2.2.2.1) (by rw [lb2]; exact o3.2.2.2.2) (Nat.le_of_ble_eq_true rfl) (Nat.le_of_ble_eq_true rfl) dX2_putStairs_12 ?_
  refine j_nmI (fun I4 eI4 => ?_)
  have h := h I4 eI4
  refine j_aload_n E dX2_putStairs_15 1 rfl ?_
  obtain ⟨b5, eb5, kb5, lb5⟩ := sh_f hZ kv1 (j := 2) (k := 14) (m := 24) rfl
  have h := h b5 eb5
  refine j_getrN E 8 2 rfl rfl (by decide) (by decide) (iw iT_8) rfl rfl (nw_8_2_X2_52) kv1 eb5 dX2_putStairs_16 ?_
  refine j_iconst E (v := 0) dX2_putStairs_19 (by decide) ?_
  refine j_aload_n E dX2_putStairs_20 0 rfl ?_
  obtain ⟨b6, eb6, kb6, lb6⟩ := sh_f hZ kv0 (j := 1) (k := 14) (m := 24) rfl
  have h := h b6 eb6
  refine j_getr E 2 1 rfl rfl (by decide) (by decide) (iw iT_2) rfl rfl (tw W_155) kv0 eb6 dX2_putStairs_21 ?_
  refine j_iconst E (v := 0) dX2_putStairs_24 (by decide) ?_
  refine j_bipush E (v := 24) dX2_putStairs_25 (by decide) ?_
  obtain ⟨o7, h⟩ := h
  refine j_copyi E (tw W_154) (tw W_11) (tw W_12) (tw W_13) kb5 kb6 o7.1 o7.2.1 o7.2.2.1 (by rw [lb5]; exact o7.2.2.2.1) (by rw [lb6]; exact o7.2.2.2.2) (Nat.le_of_ble_eq_true rfl) (Nat.le_of_ble_eq_true rfl) dX2_putStairs_27 ?_
  refine j_nmI (fun I8 eI8 => ?_)
  have h := h I8 eI8
  refine j_aload_n E dX2_putStairs_30 1 rfl ?_
  obtain ⟨b9, eb9, kb9⟩ := sh_o hZ kv1 (j := 4) (k := 4) rfl
  have h := h b9 eb9
  refine j_getrN E 8 4 rfl rfl (by decide) (by decide) (iw iT_8) rfl rfl (nw_8_4_X2_55) kv1 eb9 dX2_putStairs_31 ?_
  obtain ⟨b10, eb10, kb10, lb10⟩ := sh_f hZ kb9 (j := 0) (k := 14) (m := 192) rfl
  have h := h b10 eb10
  refine j_getrN E 4 0 rfl rfl (by decide) (by decide) (iw iT_4) rfl rfl (nw_4_0_X2_59) kb9 eb10 dX2_putStairs_34 ?_
  refine j_iconst E (v := 0) dX2_putStairs_37 (by decide) ?_
  refine j_aload_n E dX2_putStairs_38 0 rfl ?_
  obtain ⟨b11, eb11, kb11, lb11⟩ := sh_f hZ kv0 (j := 2) (k := 14) (m := 192) rfl
  have h := h b11 eb11
  refine j_getr E 2 2 rfl rfl (by decide) (by decide) (iw iT_2) rfl rfl (tw W_156) kv0 eb11 dX2_putStairs_39 ?_
  refine j_iconst E (v := 0) dX2_putStairs_42 (by decide) ?_
  refine j_sipush E (v := 192) dX2_putStairs_43 (by decide) ?_
  obtain ⟨o12, h⟩ := h
  refine j_copyi E (tw W_154) (tw W_11) (tw W_12) (tw W_13) kb10 kb11 o12.1 o12.2.1 o12.2.2.1 (by rw [lb10]; exact o12.2.2.2.1) (by rw [lb11]; exact o12.2.2.2.2) (Nat.le_of_ble_eq_true rfl) (Nat.le_of_ble_eq_true rfl) dX2_putStairs_46 ?_
  refine j_nmI (fun I13 eI13 => ?_)
  have h := h I13 eI13
  exact j_return E ⟨rfl, rfl, h⟩ (Nat.zero_le _) (Nat.zero_le _) dX2_putStairs_49
set_option maxRecDepth 100000 in
def f_X4_findMain_b40 (K4 : Nat → Int32 → Int32 → Int32 → jI → jL → Prop) (Z : jZ) (Q : jI → jL → Prop) (v0 : Nat) (v1 : Int32) (v3 : Int32) (s0 : Int32) (I : jI) (L : jL) : Prop := (∀ x1 : Int32, x1 = v3 + 1 → K4 v0 v1 s0 x1 I L)
set_option maxHeartbeats 4000000 in
set_option maxRecDepth 100000 in
theorem m_X4_findMain_b40 {G : jG} {Z : jZ} {Q : jI → jL → Prop} (E : jE G cX4_findMain RX4 w_X4_findMain 4 none { frames := 0, cells := 0, slots := 0, locals := 0 } (rtV Z Q)) (hZ : SH Z) (K4 : Nat → Int32 → Int32 → Int32 → jI → jL → Prop) (hK4 : ∀ (v0 : Nat) (v1 : Int32) (v2 : Int32) (v3 : Int32) (I : jI) (L : jL), jk Z v0 4 → K4 v0 v1 v2 v3 I L → jJ G 4 4 [(0, .ref v0), (1, .int v1), (2, .int v2), (3, .int v3)] [] Z I L 0 0) (v0 : Nat) (v1 : Int32) (v3 : Int32) (s0 : Int32) (I : jI) (L : jL) (kv0 : jk Z v0 4) (h : f_X4_findMain_b40 K4 Z Q v0 v1 v3 s0 I L) : jJ G 4 40 [(0, .ref v0), (1, .int v1), (3, .int v3)] [.int s0] Z I L 0 0 := by
  refine j_istore_n E 2 [(2, .int s0), (0, .ref v0), (1, .int v1), (3, .int v3)] dX4_findMain_40 rfl (by decide) rfl ?_
  obtain ⟨x1, ex1⟩ : ∃ y : Int32, y = v3 + 1 := ⟨_, rfl⟩
  have h := h x1 ex1
  refine j_iinc E x1 [(3, .int x1), (2, .int s0), (0, .ref v0), (1, .int v1)] dX4_findMain_41 3 rfl (by rw [ex1]; rfl) (by decide) rfl ?_
  refine j_goto E 4 dX4_findMain_44 (by decide) ?_
  refine j_sub [2, 3, 1, 0] rfl ?_
  exact hK4 v0 v1 s0 x1 I L kv0 h
set_option maxRecDepth 100000 in
def f_X4_findMain_L4  (Z : jZ) (Q : jI → jL → Prop) : Nat → Nat → Int32 → Int32 → Int32 → jI → jL → Prop
  | 0 => fun _ _ _ _ _ _ => False
  | n + 1 => fun v0 v1 v2 v3 I L => (((8 : Int32) ≤ v3 → (∀ b3 : Nat, jr Z v0 1 = some b3 → (vp_in v1 24 ∧ (∀ I5 : jI, I5 = jpI I b3 v1.toNatClampNeg v2 → Q I5 L)))) ∧ (¬ ((8 : Int32) ≤ v3) → (∀ b6 : Nat, jr Z v0 0 = some b6 → (vp_in ((v1 * (8 : Int32)) + v3) 192 ∧ (∀ b8 : Nat, jr Z v0 0 = some b8 → (vp_in ((v1 * (8 : Int32)) + v2) 192 ∧ (((I b6 ((v1 * (8 : Int32)) + v3).toNatClampNeg) ≤ (I b8 ((v1 * (8 : Int32)) + v2).toNatClampNeg) → f_X4_findMain_b40 (f_X4_findMain_L4 Z Q n) Z Q v0 v1 v3 v2 I L) ∧ (¬ ((I b6 ((v1 * (8 : Int32)) + v3).toNatClampNeg) ≤ (I b8 ((v1 * (8 : Int32)) + v2).toNatClampNeg)) → f_X4_findMain_b40 (f_X4_findMain_L4 Z Q n) Z Q v0 v1 v3 v3 I L))))))))
set_option maxHeartbeats 4000000 in
set_option maxRecDepth 100000 in
theorem m_X4_findMain_L4 {G : jG} {Z : jZ} {Q : jI → jL → Prop} (E : jE G cX4_findMain RX4 w_X4_findMain 4 none { frames := 0, cells := 0, slots := 0, locals := 0 } (rtV Z Q)) (hZ : SH Z)  : ∀ (n : Nat) (v0 : Nat) (v1 : Int32) (v2 : Int32) (v3 : Int32) (I : jI) (L : jL), jk Z v0 4 → f_X4_findMain_L4  Z Q n v0 v1 v2 v3 I L → jJ G 4 4 [(0, .ref v0), (1, .int v1), (2, .int v2), (3, .int v3)] [] Z I L 0 0 := by
  intro n
  induction n with
  | zero => intro v0 v1 v2 v3 I L _ h; exact h.elim
  | succ n ih =>
    intro v0 v1 v2 v3 I L kv0 h
    have h : (((8 : Int32) ≤ v3 → (∀ b3 : Nat, jr Z v0 1 = some b3 → (vp_in v1 24 ∧ (∀ I5 : jI, I5 = jpI I b3 v1.toNatClampNeg v2 → Q I5 L)))) ∧ (¬ ((8 : Int32) ≤ v3) → (∀ b6 : Nat, jr Z v0 0 = some b6 → (vp_in ((v1 * (8 : Int32)) + v3) 192 ∧ (∀ b8 : Nat, jr Z v0 0 = some b8 → (vp_in ((v1 * (8 : Int32)) + v2) 192 ∧ (((I b6 ((v1 * (8 : Int32)) + v3).toNatClampNeg) ≤ (I b8 ((v1 * (8 : Int32)) + v2).toNatClampNeg) → f_X4_findMain_b40 (f_X4_findMain_L4 Z Q n) Z Q v0 v1 v3 v2 I L) ∧ (¬ ((I b6 ((v1 * (8 : Int32)) + v3).toNatClampNeg) ≤ (I b8 ((v1 * (8 : Int32)) + v2).toNatClampNeg)) → f_X4_findMain_b40 (f_X4_findMain_L4 Z Q n) Z Q v0 v1 v3 v3 I L)))))))) := h
    obtain ⟨K4, eK4⟩ : ∃ K : Nat → Int32 → Int32 → Int32 → jI → jL → Prop, K = f_X4_findMain_L4  Z Q n := ⟨_, rfl⟩
    have hK4 := ih
    clear eK4 K4
    generalize f_X4_findMain_L4  Z Q n = K4 at hK4 h
    refine j_iload_n E dX4_findMain_4 3 rfl ?_
    refine j_bipush E (v := 8) dX4_findMain_5 (by decide) ?_
    refine j_icmp_ge E 47 dX4_findMain_7 (by decide) (fun c2 => ?_) (fun c2 => ?_)
    · have h := h.1 c2
      refine j_aload_n E dX4_findMain_47 0 rfl ?_
      obtain ⟨b3, eb3, kb3, lb3⟩ := sh_f hZ kv0 (j := 1) (k := 14) (m := 24) rfl
      have h := h b3 eb3
      refine j_getr E 4 1 rfl rfl (by decide) (by decide) (iw iT_4) rfl rfl (tw W_157) kv0 eb3 dX4_findMain_48 ?_
      refine j_iload_n E dX4_findMain_51 1 rfl ?_
      refine j_iload_n E dX4_findMain_52 2 rfl ?_
      obtain ⟨o4, h⟩ := h
      refine j_iast E kb3 (by rw [lb3]; exact o4) dX4_findMain_53 ?_
      refine j_nmI (fun I5 eI5 => ?_)
      have h := h I5 eI5
      exact j_return E ⟨rfl, rfl, h⟩ (Nat.zero_le _) (Nat.zero_le _) dX4_findMain_54
    · have h := h.2 c2
      refine j_aload_n E dX4_findMain_10 0 rfl ?_
      obtain ⟨b6, eb6, kb6, lb6⟩ := sh_f hZ kv0 (j := 0) (k := 14) (m := 192) rfl
      have h := h b6 eb6
      refine j_getr E 4 0 rfl rfl (by decide) (by decide) (iw iT_4) rfl rfl (tw W_158) kv0 eb6 dX4_findMain_11 ?_
      refine j_iload_n E dX4_findMain_14 1 rfl ?_
      refine j_bipush E (v := 8) dX4_findMain_15 (by decide) ?_
      refine j_imul E dX4_findMain_17 ?_
      refine j_iload_n E dX4_findMain_18 3 rfl ?_
      refine j_iadd E dX4_findMain_19 ?_
      obtain ⟨o7, h⟩ := h
      refine j_iald E kb6 (by rw [lb6]; exact o7) dX4_findMain_20 ?_
      refine j_aload_n E dX4_findMain_21 0 rfl ?_
      obtain ⟨b8, eb8, kb8, lb8⟩ := sh_f hZ kv0 (j := 0) (k := 14) (m := 192) rfl
      have h := h b8 eb8
      refine j_getr E 4 0 rfl rfl (by decide) (by decide) (iw iT_4) rfl rfl (tw W_158) kv0 eb8 dX4_findMain_22 ?_
      refine j_iload_n E dX4_findMain_25 1 rfl ?_
      refine j_bipush E (v := 8) dX4_findMain_26 (by decide) ?_
      refine j_imul E dX4_findMain_28 ?_
      refine j_iload_n E dX4_findMain_29 2 rfl ?_
      refine j_iadd E dX4_findMain_30 ?_
      obtain ⟨o9, h⟩ := h
      refine j_iald E kb8 (by rw [lb8]; exact o9) dX4_findMain_31 ?_
      refine j_icmp_le E 39 dX4_findMain_32 (by decide) (fun c10 => ?_) (fun c10 => ?_)
      · have h := h.1 c10
        refine j_iload_n E dX4_findMain_39 2 rfl ?_
        refine j_sub [0, 1, 3] rfl ?_
        exact m_X4_findMain_b40 E hZ K4 hK4 v0 v1 v3 v2 I L kv0 h
      · have h := h.2 c10
        refine j_iload_n E dX4_findMain_35 3 rfl ?_
        refine j_goto E 40 dX4_findMain_36 (by decide) ?_
        refine j_sub [0, 1, 3] rfl ?_
        exact m_X4_findMain_b40 E hZ K4 hK4 v0 v1 v3 v3 I L kv0 h
set_option maxRecDepth 100000 in
def f_X4_findMain (v0 : Nat) (v1 : Int32) (Z : jZ) (I : jI) (L : jL) (Q : jI → jL → Prop) : Prop := (∃ m4 : Nat, f_X4_findMain_L4  Z Q m4 v0 v1 (0 : Int32) (1 : Int32) I L)
set_option maxHeartbeats 4000000 in
set_option maxRecDepth 100000 in
theorem c_X4_findMain (l : Launch) (D : va_G) (cy : jC) (v0 : Nat) (v1 : Int32) (Z : jZ) (I : jI) (L : jL) (Q : jI → jL → Prop) (hZ : SH Z) (kv0 : jk Z v0 4) (h : f_X4_findMain v0 v1 Z I L Q) : jCt l yX4_findMain w_X4_findMain { frames := 0, cells := 0, slots := 0, locals := 0 } D cy [.ref v0, .int v1] Z I L (rtV Z Q) := by
  refine jCt_of (cc := cX4_findMain) (maxL := 4) (ret := none) (by decide +kernel) rfl (Nat.le_of_ble_eq_true rfl) ?_
  intro G eD eY eL E
  subst eD; subst eY; subst eL
  have E : jE G cX4_findMain RX4 w_X4_findMain 4 none { frames := 0, cells := 0, slots := 0, locals := 0 } (rtV Z Q) := E
  show jJ G 4 0 [(0, .ref v0), (1, .int v1)] [] Z I L 0 0
  refine j_iconst E (v := 0) dX4_findMain_0 (by decide) ?_
  refine j_istore_n E 2 [(2, .int (0 : Int32)), (0, .ref v0), (1, .int v1)] dX4_findMain_1 rfl (by decide) rfl ?_
  refine j_iconst E (v := 1) dX4_findMain_2 (by decide) ?_
  refine j_istore_n E 3 [(3, .int (1 : Int32)), (2, .int (0 : Int32)), (0, .ref v0), (1, .int v1)] dX4_findMain_3 rfl (by decide) rfl ?_
  obtain ⟨n11, h⟩ := h
  refine j_sub [2, 3, 1, 0] rfl ?_
  exact m_X4_findMain_L4 E hZ  n11 v0 v1 (0 : Int32) (1 : Int32) I L kv0 h
set_option maxRecDepth 100000 in
def f_X4_findMains_L2  (Z : jZ) (Q : jI → jL → Prop) : Nat → Nat → Int32 → jI → jL → Prop
  | 0 => fun _ _ _ _ => False
  | n + 1 => fun v0 v1 I L => (((24 : Int32) ≤ v1 → Q I L) ∧ (¬ ((24 : Int32) ≤ v1) → (f_X4_findMain v0 v1 Z I L (fun I4 L5 => (∀ x8 : Int32, x8 = v1 + 1 → (f_X4_findMains_L2 Z Q n) v0 x8 I4 L5)))))
set_option maxHeartbeats 4000000 in
set_option maxRecDepth 100000 in
theorem m_X4_findMains_L2 {G : jG} {Z : jZ} {Q : jI → jL → Prop} (E : jE G cX4_findMains RX4 w_X4_findMains 2 none { frames := 1, cells := 0, slots := 0, locals := 23 } (rtV Z Q)) (hZ : SH Z)  : ∀ (n : Nat) (v0 : Nat) (v1 : Int32) (I : jI) (L : jL), jk Z v0 4 → f_X4_findMains_L2  Z Q n v0 v1 I L → jJ G 2 2 [(0, .ref v0), (1, .int v1)] [] Z I L 0 0 := by
  intro n
  induction n with
  | zero => intro v0 v1 I L _ h; exact h.elim
  | succ n ih =>
    intro v0 v1 I L kv0 h
    have h : (((24 : Int32) ≤ v1 → Q I L) ∧ (¬ ((24 : Int32) ≤ v1) → (f_X4_findMain v0 v1 Z I L (fun I4 L5 => (∀ x8 : Int32, x8 = v1 + 1 → (f_X4_findMains_L2 Z Q n) v0 x8 I4 L5))))) := h
    obtain ⟨K2, eK2⟩ : ∃ K : Nat → Int32 → jI → jL → Prop, K = f_X4_findMains_L2  Z Q n := ⟨_, rfl⟩
    have hK2 := ih
    clear eK2 K2
    generalize f_X4_findMains_L2  Z Q n = K2 at hK2 h
    refine j_iload_n E dX4_findMains_2 1 rfl ?_
    refine j_bipush E (v := 24) dX4_findMains_3 (by decide) ?_
    refine j_icmp_ge E 19 dX4_findMains_5 (by decide) (fun c1 => ?_) (fun c1 => ?_)
    · have h := h.1 c1
      exact j_return E ⟨rfl, rfl, h⟩ (Nat.zero_le _) (Nat.zero_le _) dX4_findMains_19
    · have h := h.2 c1
      refine j_aload_n E dX4_findMains_8 0 rfl ?_
      refine j_iload_n E dX4_findMains_9 1 rfl ?_
      refine j_callV E [.int v1] [] (c_X4_findMain (gL G) (gD G) (gY G) v0 v1 Z I L _ hZ kv0 h) (gwV W_161 W_162 W_163 W_160 W_159) rfl ⟨rfl, fy_X4_findMain⟩ ⟨by decide, by decide⟩ (c := 4) rfl (by decide) kv0 rfl rfl (Nat.le_of_ble_eq_true rfl) ⟨Nat.zero_le _, Nat.zero_le _⟩ dX4_findMains_10 (fun v2 Z3 I4 L5 q6 => ?_)
      obtain ⟨rfl, rfl, h⟩ := q6
      show jJ G 2 13 [(0, .ref v0), (1, .int v1)] [] Z I4 L5 0 0
      obtain ⟨x8, ex8⟩ : ∃ y : Int32, y = v1 + 1 := ⟨_, rfl⟩
      have h := h x8 ex8
      refine j_iinc E x8 [(1, .int x8), (0, .ref v0)] dX4_findMains_13 1 rfl (by rw [ex8]; rfl) (by decide) rfl ?_
      refine j_goto E 2 dX4_findMains_16 (by decide) ?_
      refine j_sub [1, 0] rfl ?_
      exact hK2 v0 x8 I4 L5 kv0 h
set_option maxRecDepth 100000 in
def f_X4_findMains (v0 : Nat) (Z : jZ) (I : jI) (L : jL) (Q : jI → jL → Prop) : Prop := (∃ m2 : Nat, f_X4_findMains_L2  Z Q m2 v0 (0 : Int32) I L)
set_option maxHeartbeats 4000000 in
set_option maxRecDepth 100000 in
theorem c_X4_findMains (l : Launch) (D : va_G) (cy : jC) (v0 : Nat) (Z : jZ) (I : jI) (L : jL) (Q : jI → jL → Prop) (hZ : SH Z) (kv0 : jk Z v0 4) (h : f_X4_findMains v0 Z I L Q) : jCt l yX4_findMains w_X4_findMains { frames := 1, cells := 0, slots := 0, locals := 23 } D cy [.ref v0] Z I L (rtV Z Q) := by
  refine jCt_of (cc := cX4_findMains) (maxL := 2) (ret := none) (by decide +kernel) rfl (Nat.le_of_ble_eq_true rfl) ?_
  intro G eD eY eL E
  subst eD; subst eY; subst eL
  have E : jE G cX4_findMains RX4 w_X4_findMains 2 none { frames := 1, cells := 0, slots := 0, locals := 23 } (rtV Z Q) := E
  show jJ G 2 0 [(0, .ref v0)] [] Z I L 0 0
  refine j_iconst E (v := 0) dX4_findMains_0 (by decide) ?_
  refine j_istore_n E 1 [(1, .int (0 : Int32)), (0, .ref v0)] dX4_findMains_1 rfl (by decide) rfl ?_
  obtain ⟨n9, h⟩ := h
  refine j_sub [1, 0] rfl ?_
  exact m_X4_findMains_L2 E hZ  n9 v0 (0 : Int32) I L kv0 h
set_option maxRecDepth 100000 in
def f_X4_restore (v0 : Nat) (v1 : Nat) (Z : jZ) (I : jI) (L : jL) (Q : jI → jL → Prop) : Prop := (∀ b1 : Nat, jr Z v0 0 = some b1 → ((¬ (0 : Int32) < 0 ∧ ¬ (0 : Int32) < 0 ∧ ¬ (192 : Int32) < 0 ∧ (0 : Int32).toNatClampNeg + (192 : Int32).toNatClampNeg ≤ (jlen Z v1) ∧ (0 : Int32).toNatClampNeg + (192 : Int32).toNatClampNeg ≤ 192) ∧ (∀ I3 : jI, I3 = va_up I b1 (va_cpy (I v1) (I b1) (0 : Int32).toNatClampNeg (0 : Int32).toNatClampNeg (192 : Int32).toNatClampNeg) → (∀ I4 : jI, I4 = jpI I3 v0 4 (0 : Int32) → (f_X4_findMains v0 Z I4 L (fun I7 L8 => Q I7 L8))))))
set_option maxHeartbeats 4000000 in
set_option maxRecDepth 100000 in
theorem c_X4_restore (l : Launch) (D : va_G) (cy : jC) (v0 : Nat) (v1 : Nat) (Z : jZ) (I : jI) (L : jL) (Q : jI → jL → Prop) (hZ : SH Z) (kv0 : jk Z v0 4) (kv1 : jk Z v1 14) (h : f_X4_restore v0 v1 Z I L Q) : jCt l yX4_restore w_X4_restore { frames := 2, cells := 0, slots := 0, locals := 48 } D cy [.ref v0, .ref v1] Z I L (rtV Z Q) := by
  refine jCt_of (cc := cX4_restore) (maxL := 2) (ret := none) (by decide +kernel) rfl (Nat.le_of_ble_eq_true rfl) ?_
  intro G eD eY eL E
  subst eD; subst eY; subst eL
  have E : jE G cX4_restore RX4 w_X4_restore 2 none { frames := 2, cells := 0, slots := 0, locals := 48 } (rtV Z Q) := E
  show jJ G 2 0 [(0, .ref v0), (1, .ref v1)] [] Z I L 0 0
  refine j_aload_n E dX4_restore_0 1 rfl ?_
  refine j_iconst E (v := 0) dX4_restore_1 (by decide) ?_
  refine j_aload_n E dX4_restore_2 0 rfl ?_
  obtain ⟨b1, eb1, kb1, lb1⟩ := sh_f hZ kv0 (j := 0) (k := 14) (m := 192) rfl
  have h := h b1 eb1
  refine j_getr E 4 0 rfl rfl (by decide) (by decide) (iw iT_4) rfl rfl (tw W_158) kv0 eb1 dX4_restore_3 ?_
  refine j_iconst E (v := 0) dX4_restore_6 (by decide) ?_
  refine j_sipush E (v := 192) dX4_restore_7 (by decide) ?_
  obtain ⟨o2, h⟩ := h
  refine j_copyi E (tw W_164) (tw W_11) (tw W_12) (tw W_13) kv1 kb1 o2.1 o2.2.1 o2.2.2.1 o2.2.2.2.1 (by rw [lb1]; exact o2.2.2.2.2) (Nat.le_of_ble_eq_true rfl) (Nat.le_of_ble_eq_true rfl) dX4_restore_10 ?_
  refine j_nmI (fun I3 eI3 => ?_)
  have h := h I3 eI3
  refine j_aload_n E dX4_restore_13 0 rfl ?_
  refine j_iconst E (v := 0) dX4_restore_14 (by decide) ?_
  refine j_puti E 4 4 rfl rfl (by decide) (by decide) (iw iT_4) tyX4_ok nmX4 rfl rfl (tw W_165) rfl rfl rfl kv0 dX4_restore_15 ?_
  refine j_nmI (fun I4 eI4 => ?_)
  have h := h I4 eI4
  refine j_aload_n E dX4_restore_18 0 rfl ?_
  refine j_callV E [] [] (c_X4_findMains (gL G) (gD G) (gY G) v0 Z I4 L _ hZ kv0 h) (gwV W_167 W_168 W_169 W_160 W_166) rfl ⟨rfl, fy_X4_findMains⟩ ⟨by decide, by decide⟩ (c := 4) rfl (by decide) kv0 rfl rfl (Nat.le_of_ble_eq_true rfl) ⟨Nat.zero_le _, Nat.zero_le _⟩ dX4_restore_19 (fun v5 Z6 I7 L8 q9 => ?_)
  obtain ⟨rfl, rfl, h⟩ := q9
  show jJ G 2 22 [(0, .ref v0), (1, .ref v1)] [] Z I7 L8 0 0
  exact j_return E ⟨rfl, rfl, h⟩ (Nat.zero_le _) (Nat.zero_le _) dX4_restore_22
set_option maxRecDepth 100000 in
def f_X2_getStairs (v0 : Nat) (v1 : Nat) (Z : jZ) (I : jI) (L : jL) (Q : jI → jL → Prop) : Prop := (∀ b1 : Nat, jr Z v0 0 = some b1 → (∀ b2 : Nat, jr Z v1 1 = some b2 → ((¬ (0 : Int32) < 0 ∧ ¬ (0 : Int32) < 0 ∧ ¬ (24 : Int32) < 0 ∧ (0 : Int32).toNatClampNeg + (24 : Int32).toNatClampNeg ≤ 24 ∧ (0 : Int32).toNatClampNeg + (24 : Int32).toNatClampNeg ≤ 24) ∧ (∀ I4 : jI, I4 = va_up I b2 (va_cpy (I b1) (I b2) (0 : Int32).toNatClampNeg (0 : Int32).toNatClampNeg (24 : Int32).toNatClampNeg) → (∀ b5 : Nat, jr Z v0 1 = some b5 → (∀ b6 : Nat, jr Z v1 2 = some b6 → ((¬ (0 : Int32) < 0 ∧ ¬ (0 : Int32) < 0 ∧ ¬ (24 : Int32) < 0 ∧ (0 : Int32).toNatClampNeg + (24 : Int32).toNatClampNeg ≤ 24 ∧ (0 : Int32).toNatClampNeg + (24 : Int32).toNatClampNeg ≤ 24) ∧ (∀ I8 : jI, I8 = va_up I4 b6 (va_cpy (I4 b5) (I4 b6) (0 : Int32).toNatClampNeg (0 : Int32).toNatClampNeg (24 : Int32).toNatClampNeg) → (∀ b9 : Nat, jr Z v1 4 = some b9 → (∀ b10 : Nat, jr Z v0 2 = some b10 → (f_X4_restore b9 b10 Z I8 L (fun I13 L14 => Q I13 L14))))))))))))
set_option maxHeartbeats 4000000 in
set_option maxRecDepth 100000 in
theorem c_X2_getStairs (l : Launch) (D : va_G) (cy : jC) (v0 : Nat) (v1 : Nat) (Z : jZ) (I : jI) (L : jL) (Q : jI → jL → Prop) (hZ : SH Z) (kv0 : jk Z v0 2) (kv1 : jk Z v1 8) (h : f_X2_getStairs v0 v1 Z I L Q) : jCt l yX2_getStairs w_X2_getStairs { frames := 3, cells := 0, slots := 0, locals := 69 } D cy [.ref v0, .ref v1] Z I L (rtV Z Q) := by
  refine jCt_of (cc := cX2_getStairs) (maxL := 2) (ret := none) (by decide +kernel) rfl (Nat.le_of_ble_eq_true rfl) ?_
  intro G eD eY eL E
  subst eD; subst eY; subst eL
  have E : jE G cX2_getStairs RX2 w_X2_getStairs 2 none { frames := 3, cells := 0, slots := 0, locals := 69 } (rtV Z Q) := E
  show jJ G 2 0 [(0, .ref v0), (1, .ref v1)] [] Z I L 0 0
  refine j_aload_n E dX2_getStairs_0 0 rfl ?_
  obtain ⟨b1, eb1, kb1, lb1⟩ := sh_f hZ kv0 (j := 0) (k := 14) (m := 24) rfl
  have h := h b1 eb1
  refine j_getr E 2 0 rfl rfl (by decide) (by decide) (iw iT_2) rfl rfl (tw W_153) kv0 eb1 dX2_getStairs_1 ?_
  refine j_iconst E (v := 0) dX2_getStairs_4 (by decide) ?_
  refine j_aload_n E dX2_getStairs_5 1 rfl ?_
  obtain ⟨b2, eb2, kb2, lb2⟩ := sh_f hZ kv1 (j := 1) (k := 14) (m := 24) rfl
  have h := h b2 eb2
  refine j_getrN E 8 1 rfl rfl (by decide) (by decide) (iw iT_8) rfl rfl (nw_8_1_X2_41) kv1 eb2 dX2_getStairs_6 ?_
  refine j_iconst E (v := 0) dX2_getStairs_9 (by decide) ?_
  refine j_bipush E (v := 24) dX2_getStairs_10 (by decide) ?_
  obtain ⟨o3, h⟩ := h
  refine j_copyi E (tw W_154) (tw W_11) (tw W_12) (tw W_13) kb1 kb2 o3.1 o3.2.1 o3.2.2.1 (by rw [lb1]; exact o3.2.2.2.1) (by rw [lb2]; exact o3.2.2.2.2) (Nat.le_of_ble_eq_true rfl) (Nat.le_of_ble_eq_true rfl) dX2_getStairs_12 ?_
  refine j_nmI (fun I4 eI4 => ?_)
  have h := h I4 eI4
  refine j_aload_n E dX2_getStairs_15 0 rfl ?_
  obtain ⟨b5, eb5, kb5, lb5⟩ := sh_f hZ kv0 (j := 1) (k := 14) (m := 24) rfl
  have h := h b5 eb5
  refine j_getr E 2 1 rfl rfl (by decide) (by decide) (iw iT_2) rfl rfl (tw W_155) kv0 eb5 dX2_getStairs_16 ?_
  refine j_iconst E (v := 0) dX2_getStairs_19 (by decide) ?_
  refine j_aload_n E dX2_getStairs_20 1 rfl ?_
  obtain ⟨b6, eb6, kb6, lb6⟩ := sh_f hZ kv1 (j := 2) (k := 14) (m := 24) rfl
  have h := h b6 eb6
  refine j_getrN E 8 2 rfl rfl (by decide) (by decide) (iw iT_8) rfl rfl (nw_8_2_X2_52) kv1 eb6 dX2_getStairs_21 ?_
  refine j_iconst E (v := 0) dX2_getStairs_24 (by decide) ?_
  refine j_bipush E (v := 24) dX2_getStairs_25 (by decide) ?_
  obtain ⟨o7, h⟩ := h
  refine j_copyi E (tw W_154) (tw W_11) (tw W_12) (tw W_13) kb5 kb6 o7.1 o7.2.1 o7.2.2.1 (by rw [lb5]; exact o7.2.2.2.1) (by rw [lb6]; exact o7.2.2.2.2) (Nat.le_of_ble_eq_true rfl) (Nat.le_of_ble_eq_true rfl) dX2_getStairs_27 ?_
  refine j_nmI (fun I8 eI8 => ?_)
  have h := h I8 eI8
  refine j_aload_n E dX2_getStairs_30 1 rfl ?_
  obtain ⟨b9, eb9, kb9⟩ := sh_o hZ kv1 (j := 4) (k := 4) rfl
  have h := h b9 eb9
  refine j_getrN E 8 4 rfl rfl (by decide) (by decide) (iw iT_8) rfl rfl (nw_8_4_X2_55) kv1 eb9 dX2_getStairs_31 ?_
  refine j_aload_n E dX2_getStairs_34 0 rfl ?_
  obtain ⟨b10, eb10, kb10, lb10⟩ := sh_f hZ kv0 (j := 2) (k := 14) (m := 192) rfl
  have h := h b10 eb10
  refine j_getr E 2 2 rfl rfl (by decide) (by decide) (iw iT_2) rfl rfl (tw W_156) kv0 eb10 dX2_getStairs_35 ?_
  refine j_callV E [.ref b10] [] (c_X4_restore (gL G) (gD G) (gY G) b9 b10 Z I8 L _ hZ kb9 kb10 h) (gwV W_171 W_172 W_173 W_160 W_170) rfl ⟨rfl, fy_X4_restore⟩ ⟨by decide, by decide⟩ (c := 4) rfl (by decide) kb9 rfl rfl (Nat.le_of_ble_eq_true rfl) ⟨Nat.zero_le _, Nat.zero_le _⟩ dX2_getStairs_38 (fun v11 Z12 I13 L14 q15 => ?_)
  obtain ⟨rfl, rfl, h⟩ := q15
  show jJ G 2 41 [(0, .ref v0), (1, .ref v1)] [] Z I13 L14 0 0
  exact j_return E ⟨rfl, rfl, h⟩ (Nat.zero_le _) (Nat.zero_le _) dX2_getStairs_41
set_option maxRecDepth 100000 in
def f_X2_putPilgrim (v0 : Nat) (v1 : Int32) (v2 : Nat) (Z : jZ) (I : jI) (L : jL) (Q : jI → jL → Prop) : Prop := ((v1 < 0 → Q I L) ∧ (¬ (v1 < 0) → (((6 : Int32) ≤ v1 → Q I L) ∧ (¬ ((6 : Int32) ≤ v1) → (∀ b3 : Nat, jr Z v0 4 = some b3 → (vp_in v1 6 ∧ (∀ I5 : jI, I5 = jpI I b3 v1.toNatClampNeg (I v2 5) → (∀ b6 : Nat, jr Z v0 5 = some b6 → (vp_in v1 6 ∧ (∀ I8 : jI, I8 = jpI I5 b6 v1.toNatClampNeg (I5 v2 6) → (∀ b9 : Nat, jr Z v0 6 = some b9 → (vp_in v1 6 ∧ (∀ I11 : jI, I11 = jpI I8 b9 v1.toNatClampNeg (I8 v2 7) → Q I11 L)))))))))))))
set_option maxHeartbeats 4000000 in
set_option maxRecDepth 100000 in
theorem c_X2_putPilgrim (l : Launch) (D : va_G) (cy : jC) (v0 : Nat) (v1 : Int32) (v2 : Nat) (Z : jZ) (I : jI) (L : jL) (Q : jI → jL → Prop) (hZ : SH Z) (kv0 : jk Z v0 2) (kv2 : jk Z v2 5) (h : f_X2_putPilgrim v0 v1 v2 Z I L Q) : jCt l yX2_putPilgrim w_X2_putPilgrim { frames := 0, cells := 0, slots := 0, locals := 0 } D cy [.ref v0, .int v1, .ref v2] Z I L (rtV Z Q) := by
  refine jCt_of (cc := cX2_putPilgrim) (maxL := 3) (ret := none) (by decide +kernel) rfl (Nat.le_of_ble_eq_true rfl) ?_
  intro G eD eY eL E
  subst eD; subst eY; subst eL
  have E : jE G cX2_putPilgrim RX2 w_X2_putPilgrim 3 none { frames := 0, cells := 0, slots := 0, locals := 0 } (rtV Z Q) := E
  show jJ G 3 0 [(0, .ref v0), (1, .int v1), (2, .ref v2)] [] Z I L 0 0
  refine j_iload_n E dX2_putPilgrim_0 1 rfl ?_
  refine j_if_lt E 40 dX2_putPilgrim_1 (by decide) (fun c1 => ?_) (fun c1 => ?_)
  · have h := h.1 c1
    exact j_return E ⟨rfl, rfl, h⟩ (Nat.zero_le _) (Nat.zero_le _) dX2_putPilgrim_40
  · have h := h.2 c1
    refine j_iload_n E dX2_putPilgrim_4 1 rfl ?_
    refine j_bipush E (v := 6) dX2_putPilgrim_5 (by decide) ?_
    refine j_icmp_ge E 40 dX2_putPilgrim_7 (by decide) (fun c2 => ?_) (fun c2 => ?_)
    · have h := h.1 c2
      exact j_return E ⟨rfl, rfl, h⟩ (Nat.zero_le _) (Nat.zero_le _) dX2_putPilgrim_40
    · have h := h.2 c2
      refine j_aload_n E dX2_putPilgrim_10 0 rfl ?_
      obtain ⟨b3, eb3, kb3, lb3⟩ := sh_f hZ kv0 (j := 4) (k := 14) (m := 6) rfl
      have h := h b3 eb3
      refine j_getr E 2 4 rfl rfl (by decide) (by decide) (iw iT_2) rfl rfl (tw W_174) kv0 eb3 dX2_putPilgrim_11 ?_
      refine j_iload_n E dX2_putPilgrim_14 1 rfl ?_
      refine j_aload_n E dX2_putPilgrim_15 2 rfl ?_
      refine j_getiN E 5 5 rfl rfl (by decide) (by decide) (iw iT_5) rfl rfl (nw_5_5_X2_66) kv2 dX2_putPilgrim_16 ?_
      obtain ⟨o4, h⟩ := h
      refine j_iast E kb3 (by rw [lb3]; exact o4) dX2_putPilgrim_19 ?_
      refine j_nmI (fun I5 eI5 => ?_)
      have h := h I5 eI5
      refine j_aload_n E dX2_putPilgrim_20 0 rfl ?_
      obtain ⟨b6, eb6, kb6, lb6⟩ := sh_f hZ kv0 (j := 5) (k := 14) (m := 6) rfl
      have h := h b6 eb6
      refine j_getr E 2 5 rfl rfl (by decide) (by decide) (iw iT_2) rfl rfl (tw W_175) kv0 eb6 dX2_putPilgrim_21 ?_
      refine j_iload_n E dX2_putPilgrim_24 1 rfl ?_
      refine j_aload_n E dX2_putPilgrim_25 2 rfl ?_
      refine j_getiN E 5 6 rfl rfl (by decide) (by decide) (iw iT_5) rfl rfl (nw_5_6_X2_70) kv2 dX2_putPilgrim_26 ?_
      obtain ⟨o7, h⟩ := h
      refine j_iast E kb6 (by rw [lb6]; exact o7) dX2_putPilgrim_29 ?_
      refine j_nmI (fun I8 eI8 => ?_)
      have h := h I8 eI8
      refine j_aload_n E dX2_putPilgrim_30 0 rfl ?_
      obtain ⟨b9, eb9, kb9, lb9⟩ := sh_f hZ kv0 (j := 6) (k := 14) (m := 6) rfl
      have h := h b9 eb9
      refine j_getr E 2 6 rfl rfl (by decide) (by decide) (iw iT_2) rfl rfl (tw W_176) kv0 eb9 dX2_putPilgrim_31 ?_
      refine j_iload_n E dX2_putPilgrim_34 1 rfl ?_
      refine j_aload_n E dX2_putPilgrim_35 2 rfl ?_
      refine j_getiN E 5 7 rfl rfl (by decide) (by decide) (iw iT_5) rfl rfl (nw_5_7_X2_72) kv2 dX2_putPilgrim_36 ?_
      obtain ⟨o10, h⟩ := h
      refine j_iast E kb9 (by rw [lb9]; exact o10) dX2_putPilgrim_39 ?_
      refine j_nmI (fun I11 eI11 => ?_)
      have h := h I11 eI11
      exact j_return E ⟨rfl, rfl, h⟩ (Nat.zero_le _) (Nat.zero_le _) dX2_putPilgrim_40
set_option maxRecDepth 100000 in
def f_X2_getPilgrim (v0 : Nat) (v1 : Int32) (v2 : Nat) (Z : jZ) (I : jI) (L : jL) (Q : jI → jL → Prop) : Prop := ((v1 < 0 → Q I L) ∧ (¬ (v1 < 0) → (((6 : Int32) ≤ v1 → Q I L) ∧ (¬ ((6 : Int32) ≤ v1) → (∀ b3 : Nat, jr Z v0 4 = some b3 → (vp_in v1 6 ∧ (∀ I5 : jI, I5 = jpI I v2 5 (I b3 v1.toNatClampNeg) → (∀ b6 : Nat, jr Z v0 5 = some b6 → (vp_in v1 6 ∧ (∀ I8 : jI, I8 = jpI I5 v2 6 (I5 b6 v1.toNatClampNeg) → (∀ b9 : Nat, jr Z v0 6 = some b9 → (vp_in v1 6 ∧ (∀ I11 : jI, I11 = jpI I8 v2 7 (I8 b9 v1.toNatClampNeg) → Q I11 L)))))))))))))
set_option maxHeartbeats 4000000 in
set_option maxRecDepth 100000 in
theorem c_X2_getPilgrim (l : Launch) (D : va_G) (cy : jC) (v0 : Nat) (v1 : Int32) (v2 : Nat) (Z : jZ) (I : jI) (L : jL) (Q : jI → jL → Prop) (hZ : SH Z) (kv0 : jk Z v0 2) (kv2 : jk Z v2 5) (h : f_X2_getPilgrim v0 v1 v2 Z I L Q) : jCt l yX2_getPilgrim w_X2_getPilgrim { frames := 0, cells := 0, slots := 0, locals := 0 } D cy [.ref v0, .int v1, .ref v2] Z I L (rtV Z Q) := by
  refine jCt_of (cc := cX2_getPilgrim) (maxL := 3) (ret := none) (by decide +kernel) rfl (Nat.le_of_ble_eq_true rfl) ?_
  intro G eD eY eL E
  subst eD; subst eY; subst eL
  have E : jE G cX2_getPilgrim RX2 w_X2_getPilgrim 3 none { frames := 0, cells := 0, slots := 0, locals := 0 } (rtV Z Q) := E
  show jJ G 3 0 [(0, .ref v0), (1, .int v1), (2, .ref v2)] [] Z I L 0 0
  refine j_iload_n E dX2_getPilgrim_0 1 rfl ?_
  refine j_if_lt E 40 dX2_getPilgrim_1 (by decide) (fun c1 => ?_) (fun c1 => ?_)
  · have h := h.1 c1
    exact j_return E ⟨rfl, rfl, h⟩ (Nat.zero_le _) (Nat.zero_le _) dX2_getPilgrim_40
  · have h := h.2 c1
    refine j_iload_n E dX2_getPilgrim_4 1 rfl ?_
    refine j_bipush E (v := 6) dX2_getPilgrim_5 (by decide) ?_
    refine j_icmp_ge E 40 dX2_getPilgrim_7 (by decide) (fun c2 => ?_) (fun c2 => ?_)
    · have h := h.1 c2
      exact j_return E ⟨rfl, rfl, h⟩ (Nat.zero_le _) (Nat.zero_le _) dX2_getPilgrim_40
    · have h := h.2 c2
      refine j_aload_n E dX2_getPilgrim_10 2 rfl ?_
      refine j_aload_n E dX2_getPilgrim_11 0 rfl ?_
      obtain ⟨b3, eb3, kb3, lb3⟩ := sh_f hZ kv0 (j := 4) (k := 14) (m := 6) rfl
      have h := h b3 eb3
      refine j_getr E 2 4 rfl rfl (by decide) (by decide) (iw iT_2) rfl rfl (tw W_174) kv0 eb3 dX2_getPilgrim_12 ?_
      refine j_iload_n E dX2_getPilgrim_15 1 rfl ?_
      obtain ⟨o4, h⟩ := h
      refine j_iald E kb3 (by rw [lb3]; exact o4) dX2_getPilgrim_16 ?_
      refine j_putiN E 5 5 rfl rfl (by decide) (by decide) (iw iT_5) tyX5_ok nmX5 rfl rfl (nw_5_5_X2_66) rfl rfl rfl kv2 dX2_getPilgrim_17 ?_
      refine j_nmI (fun I5 eI5 => ?_)
      have h := h I5 eI5
      refine j_aload_n E dX2_getPilgrim_20 2 rfl ?_
      refine j_aload_n E dX2_getPilgrim_21 0 rfl ?_
      obtain ⟨b6, eb6, kb6, lb6⟩ := sh_f hZ kv0 (j := 5) (k := 14) (m := 6) rfl
      have h := h b6 eb6
      refine j_getr E 2 5 rfl rfl (by decide) (by decide) (iw iT_2) rfl rfl (tw W_175) kv0 eb6 dX2_getPilgrim_22 ?_
      refine j_iload_n E dX2_getPilgrim_25 1 rfl ?_
      obtain ⟨o7, h⟩ := h
      refine j_iald E kb6 (by rw [lb6]; exact o7) dX2_getPilgrim_26 ?_
      refine j_putiN E 5 6 rfl rfl (by decide) (by decide) (iw iT_5) tyX5_ok nmX5 rfl rfl (nw_5_6_X2_70) rfl rfl rfl kv2 dX2_getPilgrim_27 ?_
      refine j_nmI (fun I8 eI8 => ?_)
      have h := h I8 eI8
      refine j_aload_n E dX2_getPilgrim_30 2 rfl ?_
      refine j_aload_n E dX2_getPilgrim_31 0 rfl ?_
      obtain ⟨b9, eb9, kb9, lb9⟩ := sh_f hZ kv0 (j := 6) (k := 14) (m := 6) rfl
      have h := h b9 eb9
      refine j_getr E 2 6 rfl rfl (by decide) (by decide) (iw iT_2) rfl rfl (tw W_176) kv0 eb9 dX2_getPilgrim_32 ?_
      refine j_iload_n E dX2_getPilgrim_35 1 rfl ?_
      obtain ⟨o10, h⟩ := h
      refine j_iald E kb9 (by rw [lb9]; exact o10) dX2_getPilgrim_36 ?_
      refine j_putiN E 5 7 rfl rfl (by decide) (by decide) (iw iT_5) tyX5_ok nmX5 rfl rfl (nw_5_7_X2_72) rfl rfl rfl kv2 dX2_getPilgrim_37 ?_
      refine j_nmI (fun I11 eI11 => ?_)
      have h := h I11 eI11
      exact j_return E ⟨rfl, rfl, h⟩ (Nat.zero_le _) (Nat.zero_le _) dX2_getPilgrim_40
set_option maxRecDepth 100000 in
def f_X3_isTold (v0 : Nat) (Z : jZ) (I : jI) (L : jL) (Q : Int32 → jI → jL → Prop) : Prop := (((I v0 3) ≤ 0 → Q (0 : Int32) I L) ∧ (¬ ((I v0 3) ≤ 0) → Q (1 : Int32) I L))
set_option maxHeartbeats 4000000 in
set_option maxRecDepth 100000 in
theorem c_X3_isTold (l : Launch) (D : va_G) (cy : jC) (v0 : Nat) (Z : jZ) (I : jI) (L : jL) (Q : Int32 → jI → jL → Prop) (hZ : SH Z) (kv0 : jk Z v0 3) (h : f_X3_isTold v0 Z I L Q) : jCt l yX3_isTold w_X3_isTold { frames := 0, cells := 0, slots := 0, locals := 0 } D cy [.ref v0] Z I L (rtZ Z Q) := by
  refine jCt_of (cc := cX3_isTold) (maxL := 1) (ret := (some .boolean)) (by decide +kernel) rfl (Nat.le_of_ble_eq_true rfl) ?_
  intro G eD eY eL E
  subst eD; subst eY; subst eL
  have E : jE G cX3_isTold RX3 w_X3_isTold 1 (some .boolean) { frames := 0, cells := 0, slots := 0, locals := 0 } (rtZ Z Q) := E
  show jJ G 1 0 [(0, .ref v0)] [] Z I L 0 0
  refine j_aload_n E dX3_isTold_0 0 rfl ?_
  refine j_geti E 3 3 rfl rfl (by decide) (by decide) (iw iT_3) rfl rfl (tw W_177) kv0 dX3_isTold_1 ?_
  refine j_if_le E 11 dX3_isTold_4 (by decide) (fun c1 => ?_) (fun c1 => ?_)
  · have h := h.1 c1
    refine j_iconst E (v := 0) dX3_isTold_11 (by decide) ?_
    exact j_zreturn E (Or.inl rfl) ⟨rfl, _, rfl, (Or.inl rfl), h⟩ (Nat.zero_le _) (Nat.zero_le _) dX3_isTold_12
  · have h := h.2 c1
    refine j_iconst E (v := 1) dX3_isTold_7 (by decide) ?_
    refine j_goto E 12 dX3_isTold_8 (by decide) ?_
    exact j_zreturn E (Or.inr rfl) ⟨rfl, _, rfl, (Or.inr rfl), h⟩ (Nat.zero_le _) (Nat.zero_le _) dX3_isTold_12
set_option maxRecDepth 100000 in
def f_X3_names (v0 : Nat) (v1 : Int32) (Z : jZ) (I : jI) (L : jL) (Q : Int32 → jI → jL → Prop) : Prop := (f_X3_isTold v0 Z I L (fun r7 I3 L4 => ((r7 = 0 → Q (0 : Int32) I3 L4) ∧ (¬ (r7 = 0) → (((((I3 v0 4) >>> (v1 &&& 31)) &&& (1 : Int32)) = 0 → Q (0 : Int32) I3 L4) ∧ (¬ ((((I3 v0 4) >>> (v1 &&& 31)) &&& (1 : Int32)) = 0) → Q (1 : Int32) I3 L4))))))
set_option maxHeartbeats 4000000 in
set_option maxRecDepth 100000 in
theorem c_X3_names (l : Launch) (D : va_G) (cy : jC) (v0 : Nat) (v1 : Int32) (Z : jZ) (I : jI) (L : jL) (Q : Int32 → jI → jL → Prop) (hZ : SH Z) (kv0 : jk Z v0 3) (h : f_X3_names v0 v1 Z I L Q) : jCt l yX3_names w_X3_names { frames := 1, cells := 0, slots := 0, locals := 20 } D cy [.ref v0, .int v1] Z I L (rtZ Z Q) := by
  refine jCt_of (cc := cX3_names) (maxL := 2) (ret := (some .boolean)) (by decide +kernel) rfl (Nat.le_of_ble_eq_true rfl) ?_
  intro G eD eY eL E
  subst eD; subst eY; subst eL
  have E : jE G cX3_names RX3 w_X3_names 2 (some .boolean) { frames := 1, cells := 0, slots := 0, locals := 20 } (rtZ Z Q) := E
  show jJ G 2 0 [(0, .ref v0), (1, .int v1)] [] Z I L 0 0
  refine j_aload_n E dX3_names_0 0 rfl ?_
  refine j_callV E [] [] (c_X3_isTold (gL G) (gD G) (gY G) v0 Z I L _ hZ kv0 h) (gwV W_180 W_181 W_182 W_179 W_178) rfl ⟨rfl, fy_X3_isTold⟩ ⟨by decide, by decide⟩ (c := 3) rfl (by decide) kv0 rfl rfl (Nat.le_of_ble_eq_true rfl) ⟨Nat.zero_le _, Nat.zero_le _⟩ dX3_names_1 (fun v1 Z2 I3 L4 q5 => ?_)
  obtain ⟨rfl, r7, rfl, zr7, h⟩ := q5
  show jJ G 2 4 [(0, .ref v0), (1, .int v1)] [.int r7] Z I3 L4 0 0
  refine j_if_eq E 22 dX3_names_4 (by decide) (fun c8 => ?_) (fun c8 => ?_)
  · have h := h.1 c8
    refine j_iconst E (v := 0) dX3_names_22 (by decide) ?_
    exact j_zreturn E (Or.inl rfl) ⟨rfl, _, rfl, (Or.inl rfl), h⟩ (Nat.zero_le _) (Nat.zero_le _) dX3_names_23
  · have h := h.2 c8
    refine j_aload_n E dX3_names_7 0 rfl ?_
    refine j_geti E 3 4 rfl rfl (by decide) (by decide) (iw iT_3) rfl rfl (tw W_183) kv0 dX3_names_8 ?_
    refine j_iload_n E dX3_names_11 1 rfl ?_
    refine j_ishr E dX3_names_12 ?_
    refine j_iconst E (v := 1) dX3_names_13 (by decide) ?_
    refine j_iand E dX3_names_14 ?_
    refine j_if_eq E 22 dX3_names_15 (by decide) (fun c9 => ?_) (fun c9 => ?_)
    · have h := h.1 c9
      refine j_iconst E (v := 0) dX3_names_22 (by decide) ?_
      exact j_zreturn E (Or.inl rfl) ⟨rfl, _, rfl, (Or.inl rfl), h⟩ (Nat.zero_le _) (Nat.zero_le _) dX3_names_23
    · have h := h.2 c9
      refine j_iconst E (v := 1) dX3_names_18 (by decide) ?_
      refine j_goto E 23 dX3_names_19 (by decide) ?_
      exact j_zreturn E (Or.inr rfl) ⟨rfl, _, rfl, (Or.inr rfl), h⟩ (Nat.zero_le _) (Nat.zero_le _) dX3_names_23
set_option maxRecDepth 100000 in
def f_X10_signAt (v0 : Nat) (v1 : Int32) (Z : jZ) (I : jI) (L : jL) (Q : Int32 → jI → jL → Prop) : Prop := ((v1 < 0 → Q (-1 : Int32) I L) ∧ (¬ (v1 < 0) → (((I v0 1) ≤ v1 → Q (-1 : Int32) I L) ∧ (¬ ((I v0 1) ≤ v1) → (((80 : Int32) ≤ v1 → Q (-1 : Int32) I L) ∧ (¬ ((80 : Int32) ≤ v1) → (∀ b4 : Nat, jr Z v0 0 = some b4 → (vp_in v1 80 ∧ Q ((I b4 v1.toNatClampNeg) &&& (255 : Int32)) I L))))))))
set_option maxHeartbeats 4000000 in
set_option maxRecDepth 100000 in
theorem c_X10_signAt (l : Launch) (D : va_G) (cy : jC) (v0 : Nat) (v1 : Int32) (Z : jZ) (I : jI) (L : jL) (Q : Int32 → jI → jL → Prop) (hZ : SH Z) (kv0 : jk Z v0 10) (h : f_X10_signAt v0 v1 Z I L Q) : jCt l yX10_signAt w_X10_signAt { frames := 0, cells := 0, slots := 0, locals := 0 } D cy [.ref v0, .int v1] Z I L (rtI Z Q) := by
  refine jCt_of (cc := cX10_signAt) (maxL := 2) (ret := (some .int)) (by decide +kernel) rfl (Nat.le_of_ble_eq_true rfl) ?_
  intro G eD eY eL E
  subst eD; subst eY; subst eL
  have E : jE G cX10_signAt RX10 w_X10_signAt 2 (some .int) { frames := 0, cells := 0, slots := 0, locals := 0 } (rtI Z Q) := E
  show jJ G 2 0 [(0, .ref v0), (1, .int v1)] [] Z I L 0 0
  refine j_iload_n E dX10_signAt_0 1 rfl ?_
  refine j_if_lt E 31 dX10_signAt_1 (by decide) (fun c1 => ?_) (fun c1 => ?_)
  · have h := h.1 c1
    refine j_iconst E (v := -1) dX10_signAt_31 (by decide) ?_
    exact j_ireturn E ⟨rfl, _, rfl, h⟩ (Nat.zero_le _) (Nat.zero_le _) dX10_signAt_32
  · have h := h.2 c1
    refine j_iload_n E dX10_signAt_4 1 rfl ?_
    refine j_aload_n E dX10_signAt_5 0 rfl ?_
    refine j_geti E 10 1 rfl rfl (by decide) (by decide) (iw iT_10) rfl rfl (tw W_184) kv0 dX10_signAt_6 ?_
    refine j_icmp_ge E 31 dX10_signAt_9 (by decide) (fun c2 => ?_) (fun c2 => ?_)
    · have h := h.1 c2
      refine j_iconst E (v := -1) dX10_signAt_31 (by decide) ?_
      exact j_ireturn E ⟨rfl, _, rfl, h⟩ (Nat.zero_le _) (Nat.zero_le _) dX10_signAt_32
    · have h := h.2 c2
      refine j_iload_n E dX10_signAt_12 1 rfl ?_
      refine j_bipush E (v := 80) dX10_signAt_13 (by decide) ?_
      refine j_icmp_ge E 31 dX10_signAt_15 (by decide) (fun c3 => ?_) (fun c3 => ?_)
      · have h := h.1 c3
        refine j_iconst E (v := -1) dX10_signAt_31 (by decide) ?_
        exact j_ireturn E ⟨rfl, _, rfl, h⟩ (Nat.zero_le _) (Nat.zero_le _) dX10_signAt_32
      · have h := h.2 c3
        refine j_aload_n E dX10_signAt_18 0 rfl ?_
        obtain ⟨b4, eb4, kb4, lb4⟩ := sh_f hZ kv0 (j := 0) (k := 13) (m := 80) rfl
        have h := h b4 eb4
        refine j_getr E 10 0 rfl rfl (by decide) (by decide) (iw iT_10) rfl rfl (tw W_185) kv0 eb4 dX10_signAt_19 ?_
        refine j_iload_n E dX10_signAt_22 1 rfl ?_
        obtain ⟨o5, h⟩ := h
        refine j_bald E kb4 (by rw [lb4]; exact o5) dX10_signAt_23 ?_
        refine j_sipush E (v := 255) dX10_signAt_24 (by decide) ?_
        refine j_iand E dX10_signAt_27 ?_
        refine j_goto E 32 dX10_signAt_28 (by decide) ?_
        exact j_ireturn E ⟨rfl, _, rfl, h⟩ (Nat.zero_le _) (Nat.zero_le _) dX10_signAt_32
set_option maxRecDepth 100000 in
def f_X3_look (v0 : Nat) (v1 : Nat) (Z : jZ) (I : jI) (L : jL) (Q : Int32 → jI → jL → Prop) : Prop := (((I v0 7) ≤ (I v0 6) → Q (-1 : Int32) I L) ∧ (¬ ((I v0 7) ≤ (I v0 6)) → (f_X10_signAt v1 (I v0 6) Z I L (fun r8 I4 L5 => Q r8 I4 L5))))
set_option maxHeartbeats 4000000 in
set_option maxRecDepth 100000 in
theorem c_X3_look (l : Launch) (D : va_G) (cy : jC) (v0 : Nat) (v1 : Nat) (Z : jZ) (I : jI) (L : jL) (Q : Int32 → jI → jL → Prop) (hZ : SH Z) (kv0 : jk Z v0 3) (kv1 : jk Z v1 10) (h : f_X3_look v0 v1 Z I L Q) : jCt l yX3_look w_X3_look { frames := 1, cells := 0, slots := 0, locals := 21 } D cy [.ref v0, .ref v1] Z I L (rtI Z Q) := by
  refine jCt_of (cc := cX3_look) (maxL := 2) (ret := (some .int)) (by decide +kernel) rfl (Nat.le_of_ble_eq_true rfl) ?_
  intro G eD eY eL E
  subst eD; subst eY; subst eL
  have E : jE G cX3_look RX3 w_X3_look 2 (some .int) { frames := 1, cells := 0, slots := 0, locals := 21 } (rtI Z Q) := E
  show jJ G 2 0 [(0, .ref v0), (1, .ref v1)] [] Z I L 0 0
  refine j_aload_n E dX3_look_0 0 rfl ?_
  refine j_geti E 3 6 rfl rfl (by decide) (by decide) (iw iT_3) rfl rfl (tw W_186) kv0 dX3_look_1 ?_
  refine j_aload_n E dX3_look_4 0 rfl ?_
  refine j_geti E 3 7 rfl rfl (by decide) (by decide) (iw iT_3) rfl rfl (tw W_187) kv0 dX3_look_5 ?_
  refine j_icmp_ge E 22 dX3_look_8 (by decide) (fun c1 => ?_) (fun c1 => ?_)
  · have h := h.1 c1
    refine j_iconst E (v := -1) dX3_look_22 (by decide) ?_
    exact j_ireturn E ⟨rfl, _, rfl, h⟩ (Nat.zero_le _) (Nat.zero_le _) dX3_look_23
  · have h := h.2 c1
    refine j_aload_n E dX3_look_11 1 rfl ?_
    refine j_aload_n E dX3_look_12 0 rfl ?_
    refine j_geti E 3 6 rfl rfl (by decide) (by decide) (iw iT_3) rfl rfl (tw W_186) kv0 dX3_look_13 ?_
    refine j_callV E [.int (I v0 6)] [] (c_X10_signAt (gL G) (gD G) (gY G) v1 (I v0 6) Z I L _ hZ kv1 h) (gwV W_190 W_191 W_192 W_189 W_188) rfl ⟨rfl, fy_X10_signAt⟩ ⟨by decide, by decide⟩ (c := 10) rfl (by decide) kv1 rfl rfl (Nat.le_of_ble_eq_true rfl) ⟨Nat.zero_le _, Nat.zero_le _⟩ dX3_look_16 (fun v2 Z3 I4 L5 q6 => ?_)
    obtain ⟨rfl, r8, rfl, h⟩ := q6
    show jJ G 2 19 [(0, .ref v0), (1, .ref v1)] [.int r8] Z I4 L5 0 0
    refine j_goto E 23 dX3_look_19 (by decide) ?_
    exact j_ireturn E ⟨rfl, _, rfl, h⟩ (Nat.zero_le _) (Nat.zero_le _) dX3_look_23
set_option maxRecDepth 100000 in
def f_X3_isAhead_b27  (Z : jZ) (Q : Int32 → jI → jL → Prop)  (I : jI) (L : jL) : Prop := Q (1 : Int32) I L
set_option maxHeartbeats 4000000 in
set_option maxRecDepth 100000 in
theorem m_X3_isAhead_b27 {G : jG} {Z : jZ} {Q : Int32 → jI → jL → Prop} (E : jE G cX3_isAhead RX3 w_X3_isAhead 5 (some .boolean) { frames := 2, cells := 0, slots := 0, locals := 42 } (rtZ Z Q)) (hZ : SH Z)   (I : jI) (L : jL)  (h : f_X3_isAhead_b27  Z Q  I L) : jJ G 5 27 [] [] Z I L 0 0 := by
  refine j_iconst E (v := 1) dX3_isAhead_27 (by decide) ?_
  refine j_goto E 32 dX3_isAhead_28 (by decide) ?_
  exact j_zreturn E (Or.inr rfl) ⟨rfl, _, rfl, (Or.inr rfl), h⟩ (Nat.zero_le _) (Nat.zero_le _) dX3_isAhead_32
set_option maxRecDepth 100000 in
def f_X3_isAhead (v0 : Nat) (v1 : Nat) (v2 : Int32) (v3 : Int32) (Z : jZ) (I : jI) (L : jL) (Q : Int32 → jI → jL → Prop) : Prop := (f_X3_look v0 v1 Z I L (fun r7 I3 L4 => ((¬ (I3 v0 8) = (-1 : Int32) → Q (0 : Int32) I3 L4) ∧ ((I3 v0 8) = (-1 : Int32) → ((r7 = v2 → f_X3_isAhead_b27  Z Q  I3 L4) ∧ (¬ (r7 = v2) → ((¬ r7 = v3 → Q (0 : Int32) I3 L4) ∧ (r7 = v3 → f_X3_isAhead_b27  Z Q  I3 L4))))))))
set_option maxHeartbeats 4000000 in
set_option maxRecDepth 100000 in
theorem c_X3_isAhead (l : Launch) (D : va_G) (cy : jC) (v0 : Nat) (v1 : Nat) (v2 : Int32) (v3 : Int32) (Z : jZ) (I : jI) (L : jL) (Q : Int32 → jI → jL → Prop) (hZ : SH Z) (kv0 : jk Z v0 3) (kv1 : jk Z v1 10) (h : f_X3_isAhead v0 v1 v2 v3 Z I L Q) : jCt l yX3_isAhead w_X3_isAhead { frames := 2, cells := 0, slots := 0, locals := 42 } D cy [.ref v0, .ref v1, .int v2, .int v3] Z I L (rtZ Z Q) := by
  refine jCt_of (cc := cX3_isAhead) (maxL := 5) (ret := (some .boolean)) (by decide +kernel) rfl (Nat.le_of_ble_eq_true rfl) ?_
  intro G eD eY eL E
  subst eD; subst eY; subst eL
  have E : jE G cX3_isAhead RX3 w_X3_isAhead 5 (some .boolean) { frames := 2, cells := 0, slots := 0, locals := 42 } (rtZ Z Q) := E
  show jJ G 5 0 [(0, .ref v0), (1, .ref v1), (2, .int v2), (3, .int v3)] [] Z I L 0 0
  refine j_aload_n E dX3_isAhead_0 0 rfl ?_
  refine j_aload_n E dX3_isAhead_1 1 rfl ?_
  refine j_callV E [.ref v1] [] (c_X3_look (gL G) (gD G) (gY G) v0 v1 Z I L _ hZ kv0 kv1 h) (gwV W_194 W_195 W_196 W_179 W_193) rfl ⟨rfl, fy_X3_look⟩ ⟨by decide, by decide⟩ (c := 3) rfl (by decide) kv0 rfl rfl (Nat.le_of_ble_eq_true rfl) ⟨Nat.zero_le _, Nat.zero_le _⟩ dX3_isAhead_2 (fun v1 Z2 I3 L4 q5 => ?_)
  obtain ⟨rfl, r7, rfl, h⟩ := q5
  show jJ G 5 5 [(0, .ref v0), (1, .ref v1), (2, .int v2), (3, .int v3)] [.int r7] Z I3 L4 0 0
  refine j_istore E 4 [(4, .int r7), (0, .ref v0), (1, .ref v1), (2, .int v2), (3, .int v3)] dX3_isAhead_5 (by decide) rfl ?_
  refine j_aload_n E dX3_isAhead_7 1 rfl ?_
  refine j_geti E 3 8 rfl rfl (by decide) (by decide) (iw iT_3) rfl rfl (tw W_197) kv0 dX3_isAhead_8 ?_
  refine j_iconst E (v := -1) dX3_isAhead_11 (by decide) ?_
  refine j_icmp_ne E 31 dX3_isAhead_12 (by decide) (fun c8 => ?_) (fun c8 => ?_)
  · have h := h.1 c8
    refine j_iconst E (v := 0) dX3_isAhead_31 (by decide) ?_
    exact j_zreturn E (Or.inl rfl) ⟨rfl, _, rfl, (Or.inl rfl), h⟩ (Nat.zero_le _) (Nat.zero_le _) dX3_isAhead_32
  · have h := h.2 c8
    refine j_iload E dX3_isAhead_15 0 rfl ?_
    refine j_iload_n E dX3_isAhead_17 3 rfl ?_
    refine j_icmp_eq E 27 dX3_isAhead_18 (by decide) (fun c9 => ?_) (fun c9 => ?_)
    · have h := h.1 c9
      refine j_sub [] rfl ?_
      exact m_X3_isAhead_b27 E hZ   I3 L4  h
    · have h := h.2 c9
      refine j_iload E dX3_isAhead_21 0 rfl ?_
      refine j_iload_n E dX3_isAhead_23 4 rfl ?_
      refine j_icmp_ne E 31 dX3_isAhead_24 (by decide) (fun c10 => ?_) (fun c10 => ?_)
      · have h := h.1 c10
        refine j_iconst E (v := 0) dX3_isAhead_31 (by decide) ?_
        exact j_zreturn E (Or.inl rfl) ⟨rfl, _, rfl, (Or.inl rfl), h⟩ (Nat.zero_le _) (Nat.zero_le _) dX3_isAhead_32
      · have h := h.2 c10
        refine j_sub [] rfl ?_
        exact m_X3_isAhead_b27 E hZ   I3 L4  h
set_option maxRecDepth 100000 in
def f_X10_isDigit (v0 : Int32) (Z : jZ) (I : jI) (L : jL) (Q : Int32 → jI → jL → Prop) : Prop := ((v0 < (48 : Int32) → Q (0 : Int32) I L) ∧ (¬ (v0 < (48 : Int32)) → (((57 : Int32) < v0 → Q (0 : Int32) I L) ∧ (¬ ((57 : Int32) < v0) → Q (1 : Int32) I L))))
set_option maxHeartbeats 4000000 in
set_option maxRecDepth 100000 in
theorem c_X10_isDigit (l : Launch) (D : va_G) (cy : jC) (v0 : Int32) (Z : jZ) (I : jI) (L : jL) (Q : Int32 → jI → jL → Prop) (hZ : SH Z)  (h : f_X10_isDigit v0 Z I L Q) : jCt l yX10_isDigit w_X10_isDigit { frames := 0, cells := 0, slots := 0, locals := 0 } D cy [.int v0] Z I L (rtZ Z Q) := by
  refine jCt_of (cc := cX10_isDigit) (maxL := 1) (ret := (some .boolean)) (by decide +kernel) rfl (Nat.le_of_ble_eq_true rfl) ?_
  intro G eD eY eL E
  subst eD; subst eY; subst eL
  have E : jE G cX10_isDigit RX10 w_X10_isDigit 1 (some .boolean) { frames := 0, cells := 0, slots := 0, locals := 0 } (rtZ Z Q) := E
  show jJ G 1 0 [(0, .int v0)] [] Z I L 0 0
  refine j_iload_n E dX10_isDigit_0 0 rfl ?_
  refine j_bipush E (v := 48) dX10_isDigit_1 (by decide) ?_
  refine j_icmp_lt E 16 dX10_isDigit_3 (by decide) (fun c1 => ?_) (fun c1 => ?_)
  · have h := h.1 c1
    refine j_iconst E (v := 0) dX10_isDigit_16 (by decide) ?_
    exact j_zreturn E (Or.inl rfl) ⟨rfl, _, rfl, (Or.inl rfl), h⟩ (Nat.zero_le _) (Nat.zero_le _) dX10_isDigit_17
  · have h := h.2 c1
    refine j_iload_n E dX10_isDigit_6 0 rfl ?_
    refine j_bipush E (v := 57) dX10_isDigit_7 (by decide) ?_
    refine j_icmp_gt E 16 dX10_isDigit_9 (by decide) (fun c2 => ?_) (fun c2 => ?_)
    · have h := h.1 c2
      refine j_iconst E (v := 0) dX10_isDigit_16 (by decide) ?_
      exact j_zreturn E (Or.inl rfl) ⟨rfl, _, rfl, (Or.inl rfl), h⟩ (Nat.zero_le _) (Nat.zero_le _) dX10_isDigit_17
    · have h := h.2 c2
      refine j_iconst E (v := 1) dX10_isDigit_12 (by decide) ?_
      refine j_goto E 17 dX10_isDigit_13 (by decide) ?_
      exact j_zreturn E (Or.inr rfl) ⟨rfl, _, rfl, (Or.inr rfl), h⟩ (Nat.zero_le _) (Nat.zero_le _) dX10_isDigit_17
set_option maxRecDepth 100000 in
def f_X3_emit (v0 : Nat) (v1 : Int32) (Z : jZ) (I : jI) (L : jL) (Q : jI → jL → Prop) : Prop := ((¬ (I v0 8) = (-1 : Int32) → Q I L) ∧ ((I v0 8) = (-1 : Int32) → (((40 : Int32) ≤ (I v0 5) → Q I L) ∧ (¬ ((40 : Int32) ≤ (I v0 5)) → (∀ b3 : Nat, jr Z v0 1 = some b3 → (vp_in (I v0 5) 40 ∧ (∀ I5 : jI, I5 = jpI I b3 (I v0 5).toNatClampNeg v1 → (∀ I6 : jI, I6 = jpI I5 v0 5 ((I5 v0 5) + (1 : Int32)) → Q I6 L))))))))
set_option maxHeartbeats 4000000 in
set_option maxRecDepth 100000 in
theorem c_X3_emit (l : Launch) (D : va_G) (cy : jC) (v0 : Nat) (v1 : Int32) (Z : jZ) (I : jI) (L : jL) (Q : jI → jL → Prop) (hZ : SH Z) (kv0 : jk Z v0 3) (h : f_X3_emit v0 v1 Z I L Q) : jCt l yX3_emit w_X3_emit { frames := 0, cells := 0, slots := 0, locals := 0 } D cy [.ref v0, .int v1] Z I L (rtV Z Q) := by
  refine jCt_of (cc := cX3_emit) (maxL := 2) (ret := none) (by decide +kernel) rfl (Nat.le_of_ble_eq_true rfl) ?_
  intro G eD eY eL E
  subst eD; subst eY; subst eL
  have E : jE G cX3_emit RX3 w_X3_emit 2 none { frames := 0, cells := 0, slots := 0, locals := 0 } (rtV Z Q) := E
  show jJ G 2 0 [(0, .ref v0), (1, .int v1)] [] Z I L 0 0
  refine j_aload_n E dX3_emit_0 0 rfl ?_
  refine j_geti E 3 8 rfl rfl (by decide) (by decide) (iw iT_3) rfl rfl (tw W_197) kv0 dX3_emit_1 ?_
  refine j_iconst E (v := -1) dX3_emit_4 (by decide) ?_
  refine j_icmp_ne E 37 dX3_emit_5 (by decide) (fun c1 => ?_) (fun c1 => ?_)
  · have h := h.1 c1
    exact j_return E ⟨rfl, rfl, h⟩ (Nat.zero_le _) (Nat.zero_le _) dX3_emit_37
  · have h := h.2 c1
    refine j_aload_n E dX3_emit_8 0 rfl ?_
    refine j_geti E 3 5 rfl rfl (by decide) (by decide) (iw iT_3) rfl rfl (tw W_198) kv0 dX3_emit_9 ?_
    refine j_bipush E (v := 40) dX3_emit_12 (by decide) ?_
    refine j_icmp_ge E 37 dX3_emit_14 (by decide) (fun c2 => ?_) (fun c2 => ?_)
    · have h := h.1 c2
      exact j_return E ⟨rfl, rfl, h⟩ (Nat.zero_le _) (Nat.zero_le _) dX3_emit_37
    · have h := h.2 c2
      refine j_aload_n E dX3_emit_17 0 rfl ?_
      obtain ⟨b3, eb3, kb3, lb3⟩ := sh_f hZ kv0 (j := 1) (k := 14) (m := 40) rfl
      have h := h b3 eb3
      refine j_getr E 3 1 rfl rfl (by decide) (by decide) (iw iT_3) rfl rfl (tw W_199) kv0 eb3 dX3_emit_18 ?_
      refine j_aload_n E dX3_emit_21 0 rfl ?_
      refine j_geti E 3 5 rfl rfl (by decide) (by decide) (iw iT_3) rfl rfl (tw W_198) kv0 dX3_emit_22 ?_
      refine j_iload_n E dX3_emit_25 1 rfl ?_
      obtain ⟨o4, h⟩ := h
      refine j_iast E kb3 (by rw [lb3]; exact o4) dX3_emit_26 ?_
      refine j_nmI (fun I5 eI5 => ?_)
      have h := h I5 eI5
      refine j_aload_n E dX3_emit_27 0 rfl ?_
      refine j_dup E dX3_emit_28 rfl ?_
      refine j_geti E 3 5 rfl rfl (by decide) (by decide) (iw iT_3) rfl rfl (tw W_198) kv0 dX3_emit_29 ?_
      refine j_iconst E (v := 1) dX3_emit_32 (by decide) ?_
      refine j_iadd E dX3_emit_33 ?_
      refine j_puti E 3 5 rfl rfl (by decide) (by decide) (iw iT_3) tyX3_ok nmX3 rfl rfl (tw W_198) rfl rfl rfl kv0 dX3_emit_34 ?_
      refine j_nmI (fun I6 eI6 => ?_)
      have h := h I6 eI6
      exact j_return E ⟨rfl, rfl, h⟩ (Nat.zero_le _) (Nat.zero_le _) dX3_emit_37
set_option maxRecDepth 100000 in
def f_X3_readNumber_b50  (Z : jZ) (Q : jI → jL → Prop) (v0 : Nat) (v2 : Int32) (I : jI) (L : jL) : Prop := (f_X3_emit v0 v2 Z I L (fun I3 L4 => Q I3 L4))
set_option maxHeartbeats 4000000 in
set_option maxRecDepth 100000 in
theorem m_X3_readNumber_b50 {G : jG} {Z : jZ} {Q : jI → jL → Prop} (E : jE G cX3_readNumber RX3 w_X3_readNumber 4 none { frames := 2, cells := 0, slots := 0, locals := 42 } (rtV Z Q)) (hZ : SH Z)  (v0 : Nat) (v2 : Int32) (I : jI) (L : jL) (kv0 : jk Z v0 3) (h : f_X3_readNumber_b50  Z Q v0 v2 I L) : jJ G 4 50 [(0, .ref v0), (2, .int v2)] [] Z I L 0 0 := by
  refine j_aload_n E dX3_readNumber_50 0 rfl ?_
  refine j_iload_n E dX3_readNumber_51 1 rfl ?_
  refine j_callV E [.int v2] [] (c_X3_emit (gL G) (gD G) (gY G) v0 v2 Z I L _ hZ kv0 h) (gwV W_201 W_202 W_203 W_179 W_200) rfl ⟨rfl, fy_X3_emit⟩ ⟨by decide, by decide⟩ (c := 3) rfl (by decide) kv0 rfl rfl (Nat.le_of_ble_eq_true rfl) ⟨Nat.zero_le _, Nat.zero_le _⟩ dX3_readNumber_52 (fun v1 Z2 I3 L4 q5 => ?_)
  obtain ⟨rfl, rfl, h⟩ := q5
  show jJ G 4 55 [(0, .ref v0), (2, .int v2)] [] Z I3 L4 0 0
  exact j_return E ⟨rfl, rfl, h⟩ (Nat.zero_le _) (Nat.zero_le _) dX3_readNumber_55
set_option maxRecDepth 100000 in
def f_X3_readNumber_L4  (Z : jZ) (Q : jI → jL → Prop) : Nat → Nat → Nat → Int32 → Int32 → jI → jL → Prop
  | 0 => fun _ _ _ _ _ _ => False
  | n + 1 => fun v0 v1 v2 v3 I L => (((3 : Int32) ≤ v3 → f_X3_readNumber_b50  Z Q v0 v2 I L) ∧ (¬ ((3 : Int32) ≤ v3) → (f_X3_look v0 v1 Z I L (fun r14 I10 L11 => (f_X10_isDigit r14 Z I10 L11 (fun r21 I17 L18 => ((r21 = 0 → f_X3_readNumber_b50  Z Q v0 v2 I17 L18) ∧ (¬ (r21 = 0) → (f_X3_look v0 v1 Z I17 L18 (fun r29 I25 L26 => (∀ x30 : Int32, x30 = (((v2 * (10 : Int32)) + r29) - (48 : Int32)) → (∀ I31 : jI, I31 = jpI I25 v0 6 ((I25 v0 6) + (1 : Int32)) → (∀ x32 : Int32, x32 = v3 + 1 → (f_X3_readNumber_L4 Z Q n) v0 v1 x30 x32 I31 L26)))))))))))))
set_option maxHeartbeats 4000000 in
set_option maxRecDepth 100000 in
theorem m_X3_readNumber_L4 {G : jG} {Z : jZ} {Q : jI → jL → Prop} (E : jE G cX3_readNumber RX3 w_X3_readNumber 4 none { frames := 2, cells := 0, slots := 0, locals := 42 } (rtV Z Q)) (hZ : SH Z)  : ∀ (n : Nat) (v0 : Nat) (v1 : Nat) (v2 : Int32) (v3 : Int32) (I : jI) (L : jL), jk Z v0 3 → jk Z v1 10 → f_X3_readNumber_L4  Z Q n v0 v1 v2 v3 I L → jJ G 4 4 [(0, .ref v0), (1, .ref v1), (2, .int v2), (3, .int v3)] [] Z I L 0 0 := by
  intro n
  induction n with
  | zero => intro v0 v1 v2 v3 I L _ _ h; exact h.elim
  | succ n ih =>
    intro v0 v1 v2 v3 I L kv0 kv1 h
    have h : (((3 : Int32) ≤ v3 → f_X3_readNumber_b50  Z Q v0 v2 I L) ∧ (¬ ((3 : Int32) ≤ v3) → (f_X3_look v0 v1 Z I L (fun r14 I10 L11 => (f_X10_isDigit r14 Z I10 L11 (fun r21 I17 L18 => ((r21 = 0 → f_X3_readNumber_b50  Z Q v0 v2 I17 L18) ∧ (¬ (r21 = 0) → (f_X3_look v0 v1 Z I17 L18 (fun r29 I25 L26 => (∀ x30 : Int32, x30 = (((v2 * (10 : Int32)) + r29) - (48 : Int32)) → (∀ I31 : jI, I31 = jpI I25 v0 6 ((I25 v0 6) + (1 : Int32)) → (∀ x32 : Int32, x32 = v3 + 1 → (f_X3_readNumber_L4 Z Q n) v0 v1 x30 x32 I31 L26))))))))))))) := h
    obtain ⟨K4, eK4⟩ : ∃ K : Nat → Nat → Int32 → Int32 → jI → jL → Prop, K = f_X3_readNumber_L4  Z Q n := ⟨_, rfl⟩
    have hK4 := ih
    clear eK4 K4
    generalize f_X3_readNumber_L4  Z Q n = K4 at hK4 h
    refine j_iload_n E dX3_readNumber_4 3 rfl ?_
    refine j_iconst E (v := 3) dX3_readNumber_5 (by decide) ?_
    refine j_icmp_ge E 50 dX3_readNumber_6 (by decide) (fun c7 => ?_) (fun c7 => ?_)
    · have h := h.1 c7
      refine j_sub [0, 2] rfl ?_
      exact m_X3_readNumber_b50 E hZ  v0 v2 I L kv0 h
    · have h := h.2 c7
      refine j_aload_n E dX3_readNumber_9 0 rfl ?_
      refine j_aload_n E dX3_readNumber_10 1 rfl ?_
      refine j_callV E [.ref v1] [] (c_X3_look (gL G) (gD G) (gY G) v0 v1 Z I L _ hZ kv0 kv1 h) (gwV W_194 W_195 W_196 W_179 W_193) rfl ⟨rfl, fy_X3_look⟩ ⟨by decide, by decide⟩ (c := 3) rfl (by decide) kv0 rfl rfl (Nat.le_of_ble_eq_true rfl) ⟨Nat.zero_le _, Nat.zero_le _⟩ dX3_readNumber_11 (fun v8 Z9 I10 L11 q12 => ?_)
      obtain ⟨rfl, r14, rfl, h⟩ := q12
      show jJ G 4 14 [(0, .ref v0), (1, .ref v1), (2, .int v2), (3, .int v3)] [.int r14] Z I10 L11 0 0
      refine j_callS E [.int r14] [] (c_X10_isDigit (gL G) (gD G) (gY G) r14 Z I10 L11 _ hZ  h) (gwS W_205 W_206 W_189 W_204) rfl fy_X10_isDigit ⟨by decide, by decide⟩ rfl rfl (Nat.le_of_ble_eq_true rfl) ⟨Nat.zero_le _, Nat.zero_le _⟩ dX3_readNumber_14 (fun v15 Z16 I17 L18 q19 => ?_)
      obtain ⟨rfl, r21, rfl, zr21, h⟩ := q19
      show jJ G 4 17 [(0, .ref v0), (1, .ref v1), (2, .int v2), (3, .int v3)] [.int r21] Z I17 L18 0 0
      refine j_if_eq E 50 dX3_readNumber_17 (by decide) (fun c22 => ?_) (fun c22 => ?_)
      · have h := h.1 c22
        refine j_sub [0, 2] rfl ?_
        exact m_X3_readNumber_b50 E hZ  v0 v2 I17 L18 kv0 h
      · have h := h.2 c22
        refine j_iload_n E dX3_readNumber_20 2 rfl ?_
        refine j_bipush E (v := 10) dX3_readNumber_21 (by decide) ?_
        refine j_imul E dX3_readNumber_23 ?_
        refine j_aload_n E dX3_readNumber_24 0 rfl ?_
        refine j_aload_n E dX3_readNumber_25 1 rfl ?_
        refine j_callV E [.ref v1] [.int (v2 * (10 : Int32))] (c_X3_look (gL G) (gD G) (gY G) v0 v1 Z I17 L18 _ hZ kv0 kv1 h) (gwV W_194 W_195 W_196 W_179 W_193) rfl ⟨rfl, fy_X3_look⟩ ⟨by decide, by decide⟩ (c := 3) rfl (by decide) kv0 rfl rfl (Nat.le_of_ble_eq_true rfl) ⟨Nat.zero_le _, Nat.zero_le _⟩ dX3_readNumber_26 (fun v23 Z24 I25 L26 q27 => ?_)
        obtain ⟨rfl, r29, rfl, h⟩ := q27
        show jJ G 4 29 [(0, .ref v0), (1, .ref v1), (2, .int v2), (3, .int v3)] [.int r29, .int (v2 * (10 : Int32))] Z I25 L26 0 0
        refine j_iadd E dX3_readNumber_29 ?_
        refine j_bipush E (v := 48) dX3_readNumber_30 (by decide) ?_
        refine j_isub E dX3_readNumber_32 ?_
        refine j_topi (fun x30 ex30 => ?_)
        have h := h x30 ex30
        refine j_istore_n E 2 [(2, .int x30), (0, .ref v0), (1, .ref v1), (3, .int v3)] dX3_readNumber_33 rfl (by decide) rfl ?_
        refine j_aload_n E dX3_readNumber_34 1 rfl ?_
        refine j_dup E dX3_readNumber_35 rfl ?_
        refine j_geti E 3 6 rfl rfl (by decide) (by decide) (iw iT_3) rfl rfl (tw W_186) kv0 dX3_readNumber_36 ?_
        refine j_iconst E (v := 1) dX3_readNumber_39 (by decide) ?_
        refine j_iadd E dX3_readNumber_40 ?_
        refine j_puti E 3 6 rfl rfl (by decide) (by decide) (iw iT_3) tyX3_ok nmX3 rfl rfl (tw W_186) rfl rfl rfl kv0 dX3_readNumber_41 ?_
        refine j_nmI (fun I31 eI31 => ?_)
        have h := h I31 eI31
        obtain ⟨x32, ex32⟩ : ∃ y : Int32, y = v3 + 1 := ⟨_, rfl⟩
        have h := h x32 ex32
        refine j_iinc E x32 [(3, .int x32), (2, .int x30), (0, .ref v0), (1, .ref v1)] dX3_readNumber_44 3 rfl (by rw [ex32]; rfl) (by decide) rfl ?_
        refine j_goto E 4 dX3_readNumber_47 (by decide) ?_
        refine j_sub [2, 3, 1, 0] rfl ?_
        exact hK4 v0 v1 x30 x32 I31 L26 kv0 kv1 h
set_option maxRecDepth 100000 in
def f_X3_readNumber (v0 : Nat) (v1 : Nat) (Z : jZ) (I : jI) (L : jL) (Q : jI → jL → Prop) : Prop := (∃ m4 : Nat, f_X3_readNumber_L4  Z Q m4 v0 v1 (0 : Int32) (0 : Int32) I L)
set_option maxHeartbeats 4000000 in
set_option maxRecDepth 100000 in
theorem c_X3_readNumber (l : Launch) (D : va_G) (cy : jC) (v0 : Nat) (v1 : Nat) (Z : jZ) (I : jI) (L : jL) (Q : jI → jL → Prop) (hZ : SH Z) (kv0 : jk Z v0 3) (kv1 : jk Z v1 10) (h : f_X3_readNumber v0 v1 Z I L Q) : jCt l yX3_readNumber w_X3_readNumber { frames := 2, cells := 0, slots := 0, locals := 42 } D cy [.ref v0, .ref v1] Z I L (rtV Z Q) := by
  refine jCt_of (cc := cX3_readNumber) (maxL := 4) (ret := none) (by decide +kernel) rfl (Nat.le_of_ble_eq_true rfl) ?_
  intro G eD eY eL E
  subst eD; subst eY; subst eL
  have E : jE G cX3_readNumber RX3 w_X3_readNumber 4 none { frames := 2, cells := 0, slots := 0, locals := 42 } (rtV Z Q) := E
  show jJ G 4 0 [(0, .ref v0), (1, .ref v1)] [] Z I L 0 0
  refine j_iconst E (v := 0) dX3_readNumber_0 (by decide) ?_
  refine j_istore_n E 2 [(2, .int (0 : Int32)), (0, .ref v0), (1, .ref v1)] dX3_readNumber_1 rfl (by decide) rfl ?_
  refine j_iconst E (v := 0) dX3_readNumber_2 (by decide) ?_
  refine j_istore_n E 3 [(3, .int (0 : Int32)), (2, .int (0 : Int32)), (0, .ref v0), (1, .ref v1)] dX3_readNumber_3 rfl (by decide) rfl ?_
  obtain ⟨n33, h⟩ := h
  refine j_sub [2, 3, 1, 0] rfl ?_
  exact m_X3_readNumber_L4 E hZ  n33 v0 v1 (0 : Int32) (0 : Int32) I L kv0 kv1 h
set_option maxRecDepth 100000 in
def f_X3_readClosing (v0 : Nat) (v1 : Nat) (Z : jZ) (I : jI) (L : jL) (Q : jI → jL → Prop) : Prop := (f_X3_isAhead v0 v1 (41 : Int32) (41 : Int32) Z I L (fun r7 I3 L4 => ((r7 = 0 → ((¬ (I3 v0 8) = (-1 : Int32) → Q I3 L4) ∧ ((I3 v0 8) = (-1 : Int32) → (∀ I10 : jI, I10 = jpI I3 v0 8 (I3 v0 6) → Q I10 L4)))) ∧ (¬ (r7 = 0) → (∀ I11 : jI, I11 = jpI I3 v0 6 ((I3 v0 6) + (1 : Int32)) → Q I11 L4)))))
set_option maxHeartbeats 4000000 in
set_option maxRecDepth 100000 in
theorem c_X3_readClosing (l : Launch) (D : va_G) (cy : jC) (v0 : Nat) (v1 : Nat) (Z : jZ) (I : jI) (L : jL) (Q : jI → jL → Prop) (hZ : SH Z) (kv0 : jk Z v0 3) (kv1 : jk Z v1 10) (h : f_X3_readClosing v0 v1 Z I L Q) : jCt l yX3_readClosing w_X3_readClosing { frames := 3, cells := 0, slots := 0, locals := 66 } D cy [.ref v0, .ref v1] Z I L (rtV Z Q) := by
  refine jCt_of (cc := cX3_readClosing) (maxL := 2) (ret := none) (by decide +kernel) rfl (Nat.le_of_ble_eq_true rfl) ?_
  intro G eD eY eL E
  subst eD; subst eY; subst eL
  have E : jE G cX3_readClosing RX3 w_X3_readClosing 2 none { frames := 3, cells := 0, slots := 0, locals := 66 } (rtV Z Q) := E
  show jJ G 2 0 [(0, .ref v0), (1, .ref v1)] [] Z I L 0 0
  refine j_aload_n E dX3_readClosing_0 0 rfl ?_
  refine j_aload_n E dX3_readClosing_1 1 rfl ?_
  refine j_bipush E (v := 41) dX3_readClosing_2 (by decide) ?_
  refine j_bipush E (v := 41) dX3_readClosing_4 (by decide) ?_
  refine j_callV E [.ref v1, .int (41 : Int32), .int (41 : Int32)] [] (c_X3_isAhead (gL G) (gD G) (gY G) v0 v1 (41 : Int32) (41 : Int32) Z I L _ hZ kv0 kv1 h) (gwV W_208 W_209 W_210 W_179 W_207) rfl ⟨rfl, fy_X3_isAhead⟩ ⟨by decide, by decide⟩ (c := 3) rfl (by decide) kv0 rfl rfl (Nat.le_of_ble_eq_true rfl) ⟨Nat.zero_le _, Nat.zero_le _⟩ dX3_readClosing_6 (fun v1 Z2 I3 L4 q5 => ?_)
  obtain ⟨rfl, r7, rfl, zr7, h⟩ := q5
  show jJ G 2 9 [(0, .ref v0), (1, .ref v1)] [.int r7] Z I3 L4 0 0
  refine j_if_eq E 25 dX3_readClosing_9 (by decide) (fun c8 => ?_) (fun c8 => ?_)
  · have h := h.1 c8
    refine j_aload_n E dX3_readClosing_25 0 rfl ?_
    refine j_geti E 3 8 rfl rfl (by decide) (by decide) (iw iT_3) rfl rfl (tw W_197) kv0 dX3_readClosing_26 ?_
    refine j_iconst E (v := -1) dX3_readClosing_29 (by decide) ?_
    refine j_icmp_ne E 41 dX3_readClosing_30 (by decide) (fun c9 => ?_) (fun c9 => ?_)
    · have h := h.1 c9
      exact j_return E ⟨rfl, rfl, h⟩ (Nat.zero_le _) (Nat.zero_le _) dX3_readClosing_41
    · have h := h.2 c9
      refine j_aload_n E dX3_readClosing_33 0 rfl ?_
      refine j_aload_n E dX3_readClosing_34 0 rfl ?_
      refine j_geti E 3 6 rfl rfl (by decide) (by decide) (iw iT_3) rfl rfl (tw W_186) kv0 dX3_readClosing_35 ?_
      refine j_puti E 3 8 rfl rfl (by decide) (by decide) (iw iT_3) tyX3_ok nmX3 rfl rfl (tw W_197) rfl rfl rfl kv0 dX3_readClosing_38 ?_
      refine j_nmI (fun I10 eI10 => ?_)
      have h := h I10 eI10
      exact j_return E ⟨rfl, rfl, h⟩ (Nat.zero_le _) (Nat.zero_le _) dX3_readClosing_41
  · have h := h.2 c8
    refine j_aload_n E dX3_readClosing_12 0 rfl ?_
    refine j_dup E dX3_readClosing_13 rfl ?_
    refine j_geti E 3 6 rfl rfl (by decide) (by decide) (iw iT_3) rfl rfl (tw W_186) kv0 dX3_readClosing_14 ?_
    refine j_iconst E (v := 1) dX3_readClosing_17 (by decide) ?_
    refine j_iadd E dX3_readClosing_18 ?_
    refine j_puti E 3 6 rfl rfl (by decide) (by decide) (iw iT_3) tyX3_ok nmX3 rfl rfl (tw W_186) rfl rfl rfl kv0 dX3_readClosing_19 ?_
    refine j_nmI (fun I11 eI11 => ?_)
    have h := h I11 eI11
    refine j_goto E 41 dX3_readClosing_22 (by decide) ?_
    exact j_return E ⟨rfl, rfl, h⟩ (Nat.zero_le _) (Nat.zero_le _) dX3_readClosing_41
set_option maxRecDepth 100000 in
def f_X3_read_b175 (K122 : Nat → Int32 → jI → jL → Prop) (Z : jZ) (Q : Int32 → jI → jL → Prop) (v0 : Nat) (v2 : Int32) (s0 : Nat) (s1 : Int32) (s2 : Int32) (I : jI) (L : jL) : Prop := (∀ I1 : jI, I1 = jpI I s0 4 (s1 ||| s2) → (∀ x2 : Int32, x2 = v2 + 1 → K122 v0 x2 I1 L))
set_option maxHeartbeats 4000000 in
set_option maxRecDepth 100000 in
theorem m_X3_read_b175 {G : jG} {Z : jZ} {Q : Int32 → jI → jL → Prop} (E : jE G cX3_read RX3 w_X3_read 3 (some .int) { frames := 1, cells := 0, slots := 0, locals := 48 } (rtI Z Q)) (hZ : SH Z) (K122 : Nat → Int32 → jI → jL → Prop) (hK122 : ∀ (v0 : Nat) (v2 : Int32) (I : jI) (L : jL), jk Z v0 3 → K122 v0 v2 I L → jJ G 3 122 [(0, .ref v0), (2, .int v2)] [] Z I L 0 0) (v0 : Nat) (v2 : Int32) (s0 : Nat) (s1 : Int32) (s2 : Int32) (I : jI) (L : jL) (kv0 : jk Z v0 3) (ks0 : jk Z s0 3) (h : f_X3_read_b175 K122 Z Q v0 v2 s0 s1 s2 I L) : jJ G 3 175 [(0, .ref v0), (2, .int v2)] [.int s2, .int s1, .ref s0] Z I L 0 0 := by
  refine j_ior E dX3_read_175 ?_
  refine j_puti E 3 4 rfl rfl (by decide) (by decide) (iw iT_3) tyX3_ok nmX3 rfl rfl (tw W_183) rfl rfl rfl ks0 dX3_read_176 ?_
  refine j_nmI (fun I1 eI1 => ?_)
  have h := h I1 eI1
  obtain ⟨x2, ex2⟩ : ∃ y : Int32, y = v2 + 1 := ⟨_, rfl⟩
  have h := h x2 ex2
  refine j_iinc E x2 [(2, .int x2), (0, .ref v0)] dX3_read_179 1 rfl (by rw [ex2]; rfl) (by decide) rfl ?_
  refine j_goto E 122 dX3_read_182 (by decide) ?_
  refine j_sub [1, 0] rfl ?_
  exact hK122 v0 x2 I1 L kv0 h
set_option maxRecDepth 100000 in
def f_X3_read_b174 (K122 : Nat → Int32 → jI → jL → Prop) (Z : jZ) (Q : Int32 → jI → jL → Prop) (v0 : Nat) (v2 : Int32) (s0 : Nat) (s1 : Int32) (I : jI) (L : jL) : Prop := f_X3_read_b175 K122 Z Q v0 v2 s0 s1 (0 : Int32) I L
set_option maxHeartbeats 4000000 in
set_option maxRecDepth 100000 in
theorem m_X3_read_b174 {G : jG} {Z : jZ} {Q : Int32 → jI → jL → Prop} (E : jE G cX3_read RX3 w_X3_read 3 (some .int) { frames := 1, cells := 0, slots := 0, locals := 48 } (rtI Z Q)) (hZ : SH Z) (K122 : Nat → Int32 → jI → jL → Prop) (hK122 : ∀ (v0 : Nat) (v2 : Int32) (I : jI) (L : jL), jk Z v0 3 → K122 v0 v2 I L → jJ G 3 122 [(0, .ref v0), (2, .int v2)] [] Z I L 0 0) (v0 : Nat) (v2 : Int32) (s0 : Nat) (s1 : Int32) (I : jI) (L : jL) (kv0 : jk Z v0 3) (ks0 : jk Z s0 3) (h : f_X3_read_b174 K122 Z Q v0 v2 s0 s1 I L) : jJ G 3 174 [(0, .ref v0), (2, .int v2)] [.int s1, .ref s0] Z I L 0 0 := by
  refine j_iconst E (v := 0) dX3_read_174 (by decide) ?_
  refine j_sub [0, 1] rfl ?_
  exact m_X3_read_b175 E hZ K122 hK122 v0 v2 s0 s1 (0 : Int32) I L kv0 ks0 h
set_option maxRecDepth 100000 in
def f_X3_read_L122  (Z : jZ) (Q : Int32 → jI → jL → Prop) : Nat → Nat → Int32 → jI → jL → Prop
  | 0 => fun _ _ _ _ => False
  | n + 1 => fun v0 v2 I L => (((I v0 3) ≤ v2 → Q (0 : Int32) I L) ∧ (¬ ((I v0 3) ≤ v2) → (∀ b4 : Nat, jr Z v0 0 = some b4 → (vp_in v2 40 ∧ (((I b4 v2.toNatClampNeg) < (1000 : Int32) → f_X3_read_b174 (f_X3_read_L122 Z Q n) Z Q v0 v2 v0 (I v0 4) I L) ∧ (¬ ((I b4 v2.toNatClampNeg) < (1000 : Int32)) → (∀ b7 : Nat, jr Z v0 0 = some b7 → (vp_in v2 40 ∧ (((2000 : Int32) ≤ (I b7 v2.toNatClampNeg) → f_X3_read_b174 (f_X3_read_L122 Z Q n) Z Q v0 v2 v0 (I v0 4) I L) ∧ (¬ ((2000 : Int32) ≤ (I b7 v2.toNatClampNeg)) → (∀ b10 : Nat, jr Z v0 0 = some b10 → (vp_in v2 40 ∧ f_X3_read_b175 (f_X3_read_L122 Z Q n) Z Q v0 v2 v0 (I v0 4) ((1 : Int32) <<< (((I b10 v2.toNatClampNeg) - (1000 : Int32)) &&& 31)) I L))))))))))))
set_option maxHeartbeats 4000000 in
set_option maxRecDepth 100000 in
theorem m_X3_read_L122 {G : jG} {Z : jZ} {Q : Int32 → jI → jL → Prop} (E : jE G cX3_read RX3 w_X3_read 3 (some .int) { frames := 1, cells := 0, slots := 0, locals := 48 } (rtI Z Q)) (hZ : SH Z)  : ∀ (n : Nat) (v0 : Nat) (v2 : Int32) (I : jI) (L : jL), jk Z v0 3 → f_X3_read_L122  Z Q n v0 v2 I L → jJ G 3 122 [(0, .ref v0), (2, .int v2)] [] Z I L 0 0 := by
  intro n
  induction n with
  | zero => intro v0 v2 I L _ h; exact h.elim
  | succ n ih =>
    intro v0 v2 I L kv0 h
    have h : (((I v0 3) ≤ v2 → Q (0 : Int32) I L) ∧ (¬ ((I v0 3) ≤ v2) → (∀ b4 : Nat, jr Z v0 0 = some b4 → (vp_in v2 40 ∧ (((I b4 v2.toNatClampNeg) < (1000 : Int32) → f_X3_read_b174 (f_X3_read_L122 Z Q n) Z Q v0 v2 v0 (I v0 4) I L) ∧ (¬ ((I b4 v2.toNatClampNeg) < (1000 : Int32)) → (∀ b7 : Nat, jr Z v0 0 = some b7 → (vp_in v2 40 ∧ (((2000 : Int32) ≤ (I b7 v2.toNatClampNeg) → f_X3_read_b174 (f_X3_read_L122 Z Q n) Z Q v0 v2 v0 (I v0 4) I L) ∧ (¬ ((2000 : Int32) ≤ (I b7 v2.toNatClampNeg)) → (∀ b10 : Nat, jr Z v0 0 = some b10 → (vp_in v2 40 ∧ f_X3_read_b175 (f_X3_read_L122 Z Q n) Z Q v0 v2 v0 (I v0 4) ((1 : Int32) <<< (((I b10 v2.toNatClampNeg) - (1000 : Int32)) &&& 31)) I L)))))))))))) := h
    obtain ⟨K122, eK122⟩ : ∃ K : Nat → Int32 → jI → jL → Prop, K = f_X3_read_L122  Z Q n := ⟨_, rfl⟩
    have hK122 := ih
    clear eK122 K122
    generalize f_X3_read_L122  Z Q n = K122 at hK122 h
    refine j_iload_n E dX3_read_122 1 rfl ?_
    refine j_aload_n E dX3_read_123 0 rfl ?_
    refine j_geti E 3 3 rfl rfl (by decide) (by decide) (iw iT_3) rfl rfl (tw W_177) kv0 dX3_read_124 ?_
    refine j_icmp_ge E 185 dX3_read_127 (by decide) (fun c3 => ?_) (fun c3 => ?_)
    · have h := h.1 c3
      refine j_iconst E (v := 0) dX3_read_185 (by decide) ?_
      exact j_ireturn E ⟨rfl, _, rfl, h⟩ (Nat.zero_le _) (Nat.zero_le _) dX3_read_186
    · have h := h.2 c3
      refine j_aload_n E dX3_read_130 0 rfl ?_
      refine j_dup E dX3_read_131 rfl ?_
      refine j_geti E 3 4 rfl rfl (by decide) (by decide) (iw iT_3) rfl rfl (tw W_183) kv0 dX3_read_132 ?_
      refine j_aload_n E dX3_read_135 0 rfl ?_
      obtain ⟨b4, eb4, kb4, lb4⟩ := sh_f hZ kv0 (j := 0) (k := 14) (m := 40) rfl
      have h := h b4 eb4
      refine j_getr E 3 0 rfl rfl (by decide) (by decide) (iw iT_3) rfl rfl (tw W_211) kv0 eb4 dX3_read_136 ?_
      refine j_iload_n E dX3_read_139 1 rfl ?_
      obtain ⟨o5, h⟩ := h
      refine j_iald E kb4 (by rw [lb4]; exact o5) dX3_read_140 ?_
      refine j_sipush E (v := 1000) dX3_read_141 (by decide) ?_
      refine j_icmp_lt E 174 dX3_read_144 (by decide) (fun c6 => ?_) (fun c6 => ?_)
      · have h := h.1 c6
        refine j_sub [0, 1] rfl ?_
        exact m_X3_read_b174 E hZ K122 hK122 v0 v2 v0 (I v0 4) I L kv0 kv0 h
      · have h := h.2 c6
        refine j_aload_n E dX3_read_147 0 rfl ?_
        obtain ⟨b7, eb7, kb7, lb7⟩ := sh_f hZ kv0 (j := 0) (k := 14) (m := 40) rfl
        have h := h b7 eb7
        refine j_getr E 3 0 rfl rfl (by decide) (by decide) (iw iT_3) rfl rfl (tw W_211) kv0 eb7 dX3_read_148 ?_
        refine j_iload_n E dX3_read_151 1 rfl ?_
        obtain ⟨o8, h⟩ := h
        refine j_iald E kb7 (by rw [lb7]; exact o8) dX3_read_152 ?_
        refine j_sipush E (v := 2000) dX3_read_153 (by decide) ?_
        refine j_icmp_ge E 174 dX3_read_156 (by decide) (fun c9 => ?_) (fun c9 => ?_)
        · have h := h.1 c9
          refine j_sub [0, 1] rfl ?_
          exact m_X3_read_b174 E hZ K122 hK122 v0 v2 v0 (I v0 4) I L kv0 kv0 h
        · have h := h.2 c9
          refine j_iconst E (v := 1) dX3_read_159 (by decide) ?_
          refine j_aload_n E dX3_read_160 0 rfl ?_
          obtain ⟨b10, eb10, kb10, lb10⟩ := sh_f hZ kv0 (j := 0) (k := 14) (m := 40) rfl
          have h := h b10 eb10
          refine j_getr E 3 0 rfl rfl (by decide) (by decide) (iw iT_3) rfl rfl (tw W_211) kv0 eb10 dX3_read_161 ?_
          refine j_iload_n E dX3_read_164 1 rfl ?_
          obtain ⟨o11, h⟩ := h
          refine j_iald E kb10 (by rw [lb10]; exact o11) dX3_read_165 ?_
          refine j_sipush E (v := 1000) dX3_read_166 (by decide) ?_
          refine j_isub E dX3_read_169 ?_
          refine j_ishl E dX3_read_170 ?_
          refine j_goto E 175 dX3_read_171 (by decide) ?_
          refine j_sub [0, 1] rfl ?_
          exact m_X3_read_b175 E hZ K122 hK122 v0 v2 v0 (I v0 4) ((1 : Int32) <<< (((I b10 v2.toNatClampNeg) - (1000 : Int32)) &&& 31)) I L kv0 kv0 h
set_option maxRecDepth 100000 in
def f_X3_read_b77  (Z : jZ) (Q : Int32 → jI → jL → Prop) (v0 : Nat) (I : jI) (L : jL) : Prop := (((I v0 8) = (-1 : Int32) → (∀ b13 : Nat, jr Z v0 1 = some b13 → (∀ b14 : Nat, jr Z v0 0 = some b14 → ((¬ (0 : Int32) < 0 ∧ ¬ (0 : Int32) < 0 ∧ ¬ (40 : Int32) < 0 ∧ (0 : Int32).toNatClampNeg + (40 : Int32).toNatClampNeg ≤ 40 ∧ (0 : Int32).toNatClampNeg + (40 : Int32).toNatClampNeg ≤ 40) ∧ (∀ I16 : jI, I16 = va_up I b14 (va_cpy (I b13) (I b14) (0 : Int32).toNatClampNeg (0 : Int32).toNatClampNeg (40 : Int32).toNatClampNeg) → (∀ I17 : jI, I17 = jpI I16 v0 3 (I16 v0 5) → (∀ I18 : jI, I18 = jpI I17 v0 4 (0 : Int32) → (∃ m122 : Nat, f_X3_read_L122  Z Q m122 v0 (0 : Int32) I18 L)))))))) ∧ (¬ ((I v0 8) = (-1 : Int32)) → Q ((-1 : Int32) - (I v0 8)) I L))
set_option maxHeartbeats 4000000 in
set_option maxRecDepth 100000 in
theorem m_X3_read_b77 {G : jG} {Z : jZ} {Q : Int32 → jI → jL → Prop} (E : jE G cX3_read RX3 w_X3_read 3 (some .int) { frames := 1, cells := 0, slots := 0, locals := 48 } (rtI Z Q)) (hZ : SH Z)  (v0 : Nat) (I : jI) (L : jL) (kv0 : jk Z v0 3) (h : f_X3_read_b77  Z Q v0 I L) : jJ G 3 77 [(0, .ref v0)] [] Z I L 0 0 := by
  refine j_aload_n E dX3_read_77 0 rfl ?_
  refine j_geti E 3 8 rfl rfl (by decide) (by decide) (iw iT_3) rfl rfl (tw W_197) kv0 dX3_read_78 ?_
  refine j_iconst E (v := -1) dX3_read_81 (by decide) ?_
  refine j_icmp_eq E 92 dX3_read_82 (by decide) (fun c12 => ?_) (fun c12 => ?_)
  · have h := h.1 c12
    refine j_aload_n E dX3_read_92 0 rfl ?_
    obtain ⟨b13, eb13, kb13, lb13⟩ := sh_f hZ kv0 (j := 1) (k := 14) (m := 40) rfl
    have h := h b13 eb13
    refine j_getr E 3 1 rfl rfl (by decide) (by decide) (iw iT_3) rfl rfl (tw W_199) kv0 eb13 dX3_read_93 ?_
    refine j_iconst E (v := 0) dX3_read_96 (by decide) ?_
    refine j_aload_n E dX3_read_97 0 rfl ?_
    obtain ⟨b14, eb14, kb14, lb14⟩ := sh_f hZ kv0 (j := 0) (k := 14) (m := 40) rfl
    have h := h b14 eb14
    refine j_getr E 3 0 rfl rfl (by decide) (by decide) (iw iT_3) rfl rfl (tw W_211) kv0 eb14 dX3_read_98 ?_
    refine j_iconst E (v := 0) dX3_read_101 (by decide) ?_
    refine j_bipush E (v := 40) dX3_read_102 (by decide) ?_
    obtain ⟨o15, h⟩ := h
    refine j_copyi E (tw W_212) (tw W_11) (tw W_12) (tw W_13) kb13 kb14 o15.1 o15.2.1 o15.2.2.1 (by rw [lb13]; exact o15.2.2.2.1) (by rw [lb14]; exact o15.2.2.2.2) (Nat.le_of_ble_eq_true rfl) (Nat.le_of_ble_eq_true rfl) dX3_read_104 ?_
    refine j_nmI (fun I16 eI16 => ?_)
    have h := h I16 eI16
    refine j_aload_n E dX3_read_107 0 rfl ?_
    refine j_aload_n E dX3_read_108 0 rfl ?_
    refine j_geti E 3 5 rfl rfl (by decide) (by decide) (iw iT_3) rfl rfl (tw W_198) kv0 dX3_read_109 ?_
    refine j_puti E 3 3 rfl rfl (by decide) (by decide) (iw iT_3) tyX3_ok nmX3 rfl rfl (tw W_177) rfl rfl rfl kv0 dX3_read_112 ?_
    refine j_nmI (fun I17 eI17 => ?_)
    have h := h I17 eI17
    refine j_aload_n E dX3_read_115 0 rfl ?_
    refine j_iconst E (v := 0) dX3_read_116 (by decide) ?_
    refine j_puti E 3 4 rfl rfl (by decide) (by decide) (iw iT_3) tyX3_ok nmX3 rfl rfl (tw W_183) rfl rfl rfl kv0 dX3_read_117 ?_
    refine j_nmI (fun I18 eI18 => ?_)
    have h := h I18 eI18
    refine j_iconst E (v := 0) dX3_read_120 (by decide) ?_
    refine j_istore_n E 2 [(2, .int (0 : Int32)), (0, .ref v0)] dX3_read_121 rfl (by decide) rfl ?_
    obtain ⟨n19, h⟩ := h
    refine j_sub [1, 0] rfl ?_
    exact m_X3_read_L122 E hZ  n19 v0 (0 : Int32) I18 L kv0 h
  · have h := h.2 c12
    refine j_iconst E (v := -1) dX3_read_85 (by decide) ?_
    refine j_aload_n E dX3_read_86 0 rfl ?_
    refine j_geti E 3 8 rfl rfl (by decide) (by decide) (iw iT_3) rfl rfl (tw W_197) kv0 dX3_read_87 ?_
    refine j_isub E dX3_read_90 ?_
    exact j_ireturn E ⟨rfl, _, rfl, h⟩ (Nat.zero_le _) (Nat.zero_le _) dX3_read_91
set_option maxRecDepth 100000 in
def f_X3_read_b69  (Z : jZ) (Q : Int32 → jI → jL → Prop) (v0 : Nat) (I : jI) (L : jL) : Prop := (∀ I20 : jI, I20 = jpI I v0 8 (I v0 6) → f_X3_read_b77  Z Q v0 I20 L)
set_option maxHeartbeats 4000000 in
set_option maxRecDepth 100000 in
theorem m_X3_read_b69 {G : jG} {Z : jZ} {Q : Int32 → jI → jL → Prop} (E : jE G cX3_read RX3 w_X3_read 3 (some .int) { frames := 1, cells := 0, slots := 0, locals := 48 } (rtI Z Q)) (hZ : SH Z)  (v0 : Nat) (I : jI) (L : jL) (kv0 : jk Z v0 3) (h : f_X3_read_b69  Z Q v0 I L) : jJ G 3 69 [(0, .ref v0)] [] Z I L 0 0 := by
  refine j_aload_n E dX3_read_69 0 rfl ?_
  refine j_aload_n E dX3_read_70 0 rfl ?_
  refine j_geti E 3 6 rfl rfl (by decide) (by decide) (iw iT_3) rfl rfl (tw W_186) kv0 dX3_read_71 ?_
  refine j_puti E 3 8 rfl rfl (by decide) (by decide) (iw iT_3) tyX3_ok nmX3 rfl rfl (tw W_197) rfl rfl rfl kv0 dX3_read_74 ?_
  refine j_nmI (fun I20 eI20 => ?_)
  have h := h I20 eI20
  refine j_sub [0] rfl ?_
  exact m_X3_read_b77 E hZ  v0 I20 L kv0 h
set_option maxRecDepth 100000 in
def f_X3_read (v0 : Nat) (v1 : Nat) (Z : jZ) (I : jI) (L : jL) (Q : Int32 → jI → jL → Prop) : Prop := (∀ I21 : jI, I21 = jpI I v0 5 (0 : Int32) → (∀ I22 : jI, I22 = jpI I21 v0 6 (0 : Int32) → (∀ I23 : jI, I23 = jpI I22 v0 8 (-1 : Int32) → (∀ I24 : jI, I24 = jpI I23 v0 7 (if (40 : Int32) < (I23 v1 1) then (40 : Int32) else (I23 v1 1)) → (((I24 v1 1) ≤ 0 → f_X3_read_b77  Z Q v0 I24 L) ∧ (¬ ((I24 v1 1) ≤ 0) → False))))))
set_option maxHeartbeats 4000000 in
set_option maxRecDepth 100000 in
theorem c_X3_read (l : Launch) (D : va_G) (cy : jC) (v0 : Nat) (v1 : Nat) (Z : jZ) (I : jI) (L : jL) (Q : Int32 → jI → jL → Prop) (hZ : SH Z) (kv0 : jk Z v0 3) (kv1 : jk Z v1 10) (h : f_X3_read v0 v1 Z I L Q) : jCt l yX3_read w_X3_read { frames := 1, cells := 0, slots := 0, locals := 48 } D cy [.ref v0, .ref v1] Z I L (rtI Z Q) := by
  refine jCt_of (cc := cX3_read) (maxL := 3) (ret := (some .int)) (by decide +kernel) rfl (Nat.le_of_ble_eq_true rfl) ?_
  intro G eD eY eL E
  subst eD; subst eY; subst eL
  have E : jE G cX3_read RX3 w_X3_read 3 (some .int) { frames := 1, cells := 0, slots := 0, locals := 48 } (rtI Z Q) := E
  show jJ G 3 0 [(0, .ref v0), (1, .ref v1)] [] Z I L 0 0
  refine j_aload_n E dX3_read_0 0 rfl ?_
  refine j_iconst E (v := 0) dX3_read_1 (by decide) ?_
  refine j_puti E 3 5 rfl rfl (by decide) (by decide) (iw iT_3) tyX3_ok nmX3 rfl rfl (tw W_198) rfl rfl rfl kv0 dX3_read_2 ?_
  refine j_nmI (fun I21 eI21 => ?_)
  have h := h I21 eI21
  refine j_aload_n E dX3_read_5 0 rfl ?_
  refine j_iconst E (v := 0) dX3_read_6 (by decide) ?_
  refine j_puti E 3 6 rfl rfl (by decide) (by decide) (iw iT_3) tyX3_ok nmX3 rfl rfl (tw W_186) rfl rfl rfl kv0 dX3_read_7 ?_
  refine j_nmI (fun I22 eI22 => ?_)
  have h := h I22 eI22
  refine j_aload_n E dX3_read_10 0 rfl ?_
  refine j_iconst E (v := -1) dX3_read_11 (by decide) ?_
  refine j_puti E 3 8 rfl rfl (by decide) (by decide) (iw iT_3) tyX3_ok nmX3 rfl rfl (tw W_197) rfl rfl rfl kv0 dX3_read_12 ?_
  refine j_nmI (fun I23 eI23 => ?_)
  have h := h I23 eI23
  refine j_aload_n E dX3_read_15 0 rfl ?_
  refine j_aload_n E dX3_read_16 1 rfl ?_
  refine j_getiN E 10 1 rfl rfl (by decide) (by decide) (iw iT_10) rfl rfl (nw_10_1_X3_44) kv1 dX3_read_17 ?_
  refine j_bipush E (v := 40) dX3_read_20 (by decide) ?_
  refine j_min E (tw W_213) (tw W_7) (tw W_8) (tw W_9) (Nat.le_of_ble_eq_true rfl) (Nat.le_of_ble_eq_true rfl) (Nat.zero_le _) (Nat.zero_le _) dX3_read_22 ?_
  refine j_puti E 3 7 rfl rfl (by decide) (by decide) (iw iT_3) tyX3_ok nmX3 rfl rfl (tw W_187) rfl rfl rfl kv0 dX3_read_25 ?_
  refine j_nmI (fun I24 eI24 => ?_)
  have h := h I24 eI24
  refine j_aload_n E dX3_read_28 1 rfl ?_
  refine j_getiN E 10 1 rfl rfl (by decide) (by decide) (iw iT_10) rfl rfl (nw_10_1_X3_44) kv1 dX3_read_29 ?_
  refine j_if_le E 77 dX3_read_32 (by decide) (fun c25 => ?_) (fun c25 => ?_)
  · have h := h.1 c25
    refine j_sub [0] rfl ?_
    exact m_X3_read_b77 E hZ  v0 I24 L kv0 h
  · have h := h.2 c25
    refine j_aload_n E dX3_read_35 0 rfl ?_
    refine j_aload_n E dX3_read_36 1 rfl ?_
    refine j_iconst E (v := 0) dX3_read_37 (by decide) ?_
    exact h.elim
set_option maxRecDepth 100000 in
def f_X3_join (v0 : Int32) (v1 : Int32) (v2 : Int32) (Z : jZ) (I : jI) (L : jL) (Q : Int32 → jI → jL → Prop) : Prop := ((v0 = 42 → Q (v1 * v2) I L) ∧ (¬ v0 = 42 → ((v0 = 43 → Q (v1 + v2) I L) ∧ (¬ v0 = 43 → ((v0 = 45 → Q (v1 - v2) I L) ∧ (¬ v0 = 45 → ((v0 = 60 → ((v2 ≤ v1 → Q (0 : Int32) I L) ∧ (¬ (v2 ≤ v1) → Q (1 : Int32) I L))) ∧ (¬ v0 = 60 → ((v0 = 61 → ((¬ v1 = v2 → Q (0 : Int32) I L) ∧ (v1 = v2 → Q (1 : Int32) I L))) ∧ (¬ v0 = 61 → ((v0 = 62 → ((v1 ≤ v2 → Q (0 : Int32) I L) ∧ (¬ (v1 ≤ v2) → Q (1 : Int32) I L))) ∧ (¬ v0 = 62 → ((¬ v2 = 0 → (¬ v2 = 0 ∧ Q (v1 / v2) I L)) ∧ (v2 = 0 → Q (0 : Int32) I L))))))))))))))
set_option maxHeartbeats 4000000 in
set_option maxRecDepth 100000 in
theorem c_X3_join (l : Launch) (D : va_G) (cy : jC) (v0 : Int32) (v1 : Int32) (v2 : Int32) (Z : jZ) (I : jI) (L : jL) (Q : Int32 → jI → jL → Prop) (hZ : SH Z)  (h : f_X3_join v0 v1 v2 Z I L Q) : jCt l yX3_join w_X3_join { frames := 0, cells := 0, slots := 0, locals := 0 } D cy [.int v0, .int v1, .int v2] Z I L (rtI Z Q) := by
  refine jCt_of (cc := cX3_join) (maxL := 3) (ret := (some .int)) (by decide +kernel) rfl (Nat.le_of_ble_eq_true rfl) ?_
  intro G eD eY eL E
  subst eD; subst eY; subst eL
  have E : jE G cX3_join RX3 w_X3_join 3 (some .int) { frames := 0, cells := 0, slots := 0, locals := 0 } (rtI Z Q) := E
  show jJ G 3 0 [(0, .int v0), (1, .int v1), (2, .int v2)] [] Z I L 0 0
  refine j_iload_n E dX3_join_0 0 rfl ?_
  by_cases c1 : v0 = 42
  · have h := h.1 c1
    refine j_lookup E (100) 101 dX3_join_1 (by decide) (by rw [c1]; rfl) (by decide) ?_
    refine j_iload_n E dX3_join_101 1 rfl ?_
    refine j_iload_n E dX3_join_102 2 rfl ?_
    refine j_imul E dX3_join_103 ?_
    exact j_ireturn E ⟨rfl, _, rfl, h⟩ (Nat.zero_le _) (Nat.zero_le _) dX3_join_104
  · have h := h.2 c1
    by_cases c2 : v0 = 43
    · have h := h.1 c2
      refine j_lookup E (92) 93 dX3_join_1 (by decide) (by rw [c2]; rfl) (by decide) ?_
      refine j_iload_n E dX3_join_93 1 rfl ?_
      refine j_iload_n E dX3_join_94 2 rfl ?_
      refine j_iadd E dX3_join_95 ?_
      exact j_ireturn E ⟨rfl, _, rfl, h⟩ (Nat.zero_le _) (Nat.zero_le _) dX3_join_96
    · have h := h.2 c2
      by_cases c3 : v0 = 45
      · have h := h.1 c3
        refine j_lookup E (96) 97 dX3_join_1 (by decide) (by rw [c3]; rfl) (by decide) ?_
        refine j_iload_n E dX3_join_97 1 rfl ?_
        refine j_iload_n E dX3_join_98 2 rfl ?_
        refine j_isub E dX3_join_99 ?_
        exact j_ireturn E ⟨rfl, _, rfl, h⟩ (Nat.zero_le _) (Nat.zero_le _) dX3_join_100
      · have h := h.2 c3
        by_cases c4 : v0 = 60
        · have h := h.1 c4
          refine j_lookup E (59) 60 dX3_join_1 (by decide) (by rw [c4]; rfl) (by decide) ?_
          refine j_iload_n E dX3_join_60 1 rfl ?_
          refine j_iload_n E dX3_join_61 2 rfl ?_
          refine j_icmp_ge E 69 dX3_join_62 (by decide) (fun c5 => ?_) (fun c5 => ?_)
          · have h := h.1 c5
            refine j_iconst E (v := 0) dX3_join_69 (by decide) ?_
            exact j_ireturn E ⟨rfl, _, rfl, h⟩ (Nat.zero_le _) (Nat.zero_le _) dX3_join_70
          · have h := h.2 c5
            refine j_iconst E (v := 1) dX3_join_65 (by decide) ?_
            refine j_goto E 70 dX3_join_66 (by decide) ?_
            exact j_ireturn E ⟨rfl, _, rfl, h⟩ (Nat.zero_le _) (Nat.zero_le _) dX3_join_70
        · have h := h.2 c4
          by_cases c6 : v0 = 61
          · have h := h.1 c6
            refine j_lookup E (81) 82 dX3_join_1 (by decide) (by rw [c6]; rfl) (by decide) ?_
            refine j_iload_n E dX3_join_82 1 rfl ?_
            refine j_iload_n E dX3_join_83 2 rfl ?_
            refine j_icmp_ne E 91 dX3_join_84 (by decide) (fun c7 => ?_) (fun c7 => ?_)
            · have h := h.1 c7
              refine j_iconst E (v := 0) dX3_join_91 (by decide) ?_
              exact j_ireturn E ⟨rfl, _, rfl, h⟩ (Nat.zero_le _) (Nat.zero_le _) dX3_join_92
            · have h := h.2 c7
              refine j_iconst E (v := 1) dX3_join_87 (by decide) ?_
              refine j_goto E 92 dX3_join_88 (by decide) ?_
              exact j_ireturn E ⟨rfl, _, rfl, h⟩ (Nat.zero_le _) (Nat.zero_le _) dX3_join_92
          · have h := h.2 c6
            by_cases c8 : v0 = 62
            · have h := h.1 c8
              refine j_lookup E (70) 71 dX3_join_1 (by decide) (by rw [c8]; rfl) (by decide) ?_
              refine j_iload_n E dX3_join_71 1 rfl ?_
              refine j_iload_n E dX3_join_72 2 rfl ?_
              refine j_icmp_le E 80 dX3_join_73 (by decide) (fun c9 => ?_) (fun c9 => ?_)
              · have h := h.1 c9
                refine j_iconst E (v := 0) dX3_join_80 (by decide) ?_
                exact j_ireturn E ⟨rfl, _, rfl, h⟩ (Nat.zero_le _) (Nat.zero_le _) dX3_join_81
              · have h := h.2 c9
                refine j_iconst E (v := 1) dX3_join_76 (by decide) ?_
                refine j_goto E 81 dX3_join_77 (by decide) ?_
                exact j_ireturn E ⟨rfl, _, rfl, h⟩ (Nat.zero_le _) (Nat.zero_le _) dX3_join_81
            · have h := h.2 c8
              refine j_lookup E (104) 105 dX3_join_1 (by decide) (by show Op.lookupswitch.offset [(42, 100), (43, 92), (45, 96), (60, 59), (61, 81), (62, 70)] 104 _ = _; rw [lv_osw c1 (show ((42 : Int32).toInt) = 42 from rfl), lv_osw c2 (show ((43 : Int32).toInt) = 43 from rfl), lv_osw c3 (show ((45 : Int32).toInt) = 45 from rfl), lv_osw c4 (show ((60 : Int32).toInt) = 60 from rfl), lv_osw c6 (show ((61 : Int32).toInt) = 61 from rfl), lv_osw c8 (show ((62 : Int32).toInt) = 62 from rfl)]; rfl) (by decide) ?_
              refine j_iload_n E dX3_join_105 2 rfl ?_
              refine j_if_ne E 113 dX3_join_106 (by decide) (fun c10 => ?_) (fun c10 => ?_)
              · have h := h.1 c10
                refine j_iload_n E dX3_join_113 1 rfl ?_
                refine j_iload_n E dX3_join_114 2 rfl ?_
                obtain ⟨o11, h⟩ := h
                refine j_idiv E dX3_join_115 o11 ?_
                exact j_ireturn E ⟨rfl, _, rfl, h⟩ (Nat.zero_le _) (Nat.zero_le _) dX3_join_116
              · have h := h.2 c10
                refine j_iconst E (v := 0) dX3_join_109 (by decide) ?_
                refine j_goto E 116 dX3_join_110 (by decide) ?_
                exact j_ireturn E ⟨rfl, _, rfl, h⟩ (Nat.zero_le _) (Nat.zero_le _) dX3_join_116
set_option maxRecDepth 100000 in
def f_X3_priceFor_b156  (Z : jZ) (Q : Int32 → jI → jL → Prop) (v0 : Nat) (v2 : Int32) (I : jI) (L : jL) : Prop := ((¬ v2 = 0 → (∀ b2 : Nat, jr Z v0 2 = some b2 → (vp_in (v2 - (1 : Int32)) 41 ∧ Q (if (0 : Int32) < (if (I b2 (v2 - (1 : Int32)).toNatClampNeg) < (99 : Int32) then (I b2 (v2 - (1 : Int32)).toNatClampNeg) else (99 : Int32)) then (if (I b2 (v2 - (1 : Int32)).toNatClampNeg) < (99 : Int32) then (I b2 (v2 - (1 : Int32)).toNatClampNeg) else (99 : Int32)) else (0 : Int32)) I L))) ∧ (v2 = 0 → Q (0 : Int32) I L))
set_option maxHeartbeats 4000000 in
set_option maxRecDepth 100000 in
theorem m_X3_priceFor_b156 {G : jG} {Z : jZ} {Q : Int32 → jI → jL → Prop} (E : jE G cX3_priceFor RX3 w_X3_priceFor 6 (some .int) { frames := 1, cells := 0, slots := 0, locals := 23 } (rtI Z Q)) (hZ : SH Z)  (v0 : Nat) (v2 : Int32) (I : jI) (L : jL) (kv0 : jk Z v0 3) (h : f_X3_priceFor_b156  Z Q v0 v2 I L) : jJ G 6 156 [(0, .ref v0), (2, .int v2)] [] Z I L 0 0 := by
  refine j_iload_n E dX3_priceFor_156 1 rfl ?_
  refine j_if_ne E 164 dX3_priceFor_157 (by decide) (fun c1 => ?_) (fun c1 => ?_)
  · have h := h.1 c1
    refine j_iconst E (v := 0) dX3_priceFor_164 (by decide) ?_
    refine j_bipush E (v := 99) dX3_priceFor_165 (by decide) ?_
    refine j_aload_n E dX3_priceFor_167 0 rfl ?_
    obtain ⟨b2, eb2, kb2, lb2⟩ := sh_f hZ kv0 (j := 2) (k := 14) (m := 41) rfl
    have h := h b2 eb2
    refine j_getr E 3 2 rfl rfl (by decide) (by decide) (iw iT_3) rfl rfl (tw W_214) kv0 eb2 dX3_priceFor_168 ?_
    refine j_iload_n E dX3_priceFor_171 1 rfl ?_
    refine j_iconst E (v := 1) dX3_priceFor_172 (by decide) ?_
    refine j_isub E dX3_priceFor_173 ?_
    obtain ⟨o3, h⟩ := h
    refine j_iald E kb2 (by rw [lb2]; exact o3) dX3_priceFor_174 ?_
    refine j_min E (tw W_213) (tw W_7) (tw W_8) (tw W_9) (Nat.le_of_ble_eq_true rfl) (Nat.le_of_ble_eq_true rfl) (Nat.zero_le _) (Nat.zero_le _) dX3_priceFor_175 ?_
    refine j_max E (tw W_215) (tw W_147) (tw W_8) (tw W_148) (Nat.le_of_ble_eq_true rfl) (Nat.le_of_ble_eq_true rfl) (Nat.zero_le _) (Nat.zero_le _) dX3_priceFor_178 ?_
    exact j_ireturn E ⟨rfl, _, rfl, h⟩ (Nat.zero_le _) (Nat.zero_le _) dX3_priceFor_181
  · have h := h.2 c1
    refine j_iconst E (v := 0) dX3_priceFor_160 (by decide) ?_
    refine j_goto E 181 dX3_priceFor_161 (by decide) ?_
    exact j_ireturn E ⟨rfl, _, rfl, h⟩ (Nat.zero_le _) (Nat.zero_le _) dX3_priceFor_181
set_option maxRecDepth 100000 in
def f_X3_priceFor_b150 (K4 : Nat → Nat → Int32 → Int32 → jI → jL → Prop) (Z : jZ) (Q : Int32 → jI → jL → Prop) (v0 : Nat) (v1 : Nat) (v2 : Int32) (v3 : Int32) (I : jI) (L : jL) : Prop := (∀ x4 : Int32, x4 = v3 + 1 → K4 v0 v1 v2 x4 I L)
set_option maxHeartbeats 4000000 in
set_option maxRecDepth 100000 in
theorem m_X3_priceFor_b150 {G : jG} {Z : jZ} {Q : Int32 → jI → jL → Prop} (E : jE G cX3_priceFor RX3 w_X3_priceFor 6 (some .int) { frames := 1, cells := 0, slots := 0, locals := 23 } (rtI Z Q)) (hZ : SH Z) (K4 : Nat → Nat → Int32 → Int32 → jI → jL → Prop) (hK4 : ∀ (v0 : Nat) (v1 : Nat) (v2 : Int32) (v3 : Int32) (I : jI) (L : jL), jk Z v0 3 → jk Z v1 14 → K4 v0 v1 v2 v3 I L → jJ G 6 4 [(0, .ref v0), (1, .ref v1), (2, .int v2), (3, .int v3)] [] Z I L 0 0) (v0 : Nat) (v1 : Nat) (v2 : Int32) (v3 : Int32) (I : jI) (L : jL) (kv0 : jk Z v0 3) (kv1 : jk Z v1 14) (h : f_X3_priceFor_b150 K4 Z Q v0 v1 v2 v3 I L) : jJ G 6 150 [(0, .ref v0), (1, .ref v1), (2, .int v2), (3, .int v3)] [] Z I L 0 0 := by
  obtain ⟨x4, ex4⟩ : ∃ y : Int32, y = v3 + 1 := ⟨_, rfl⟩
  have h := h x4 ex4
  refine j_iinc E x4 [(3, .int x4), (0, .ref v0), (1, .ref v1), (2, .int v2)] dX3_priceFor_150 3 rfl (by rw [ex4]; rfl) (by decide) rfl ?_
  refine j_goto E 4 dX3_priceFor_153 (by decide) ?_
  refine j_sub [1, 2, 3, 0] rfl ?_
  exact hK4 v0 v1 v2 x4 I L kv0 kv1 h
set_option maxRecDepth 100000 in
def f_X3_priceFor_b111 (K4 : Nat → Nat → Int32 → Int32 → jI → jL → Prop) (Z : jZ) (Q : Int32 → jI → jL → Prop) (v0 : Nat) (v1 : Nat) (v2 : Int32) (v3 : Int32) (v4 : Int32) (I : jI) (L : jL) : Prop := ((v2 ≤ (1 : Int32) → f_X3_priceFor_b150 K4 Z Q v0 v1 v2 v3 I L) ∧ (¬ (v2 ≤ (1 : Int32)) → (∀ x6 : Int32, x6 = v2 + (-1) → (∀ b7 : Nat, jr Z v0 2 = some b7 → (∀ b8 : Nat, jr Z v0 2 = some b8 → (vp_in (x6 - (1 : Int32)) 41 ∧ (∀ b10 : Nat, jr Z v0 2 = some b10 → (vp_in x6 41 ∧ (f_X3_join (v4 - (2000 : Int32)) (I b8 (x6 - (1 : Int32)).toNatClampNeg) (I b10 x6.toNatClampNeg) Z I L (fun r18 I14 L15 => (vp_in (x6 - (1 : Int32)) 41 ∧ (∀ I20 : jI, I20 = jpI I14 b7 (x6 - (1 : Int32)).toNatClampNeg r18 → f_X3_priceFor_b150 K4 Z Q v0 v1 x6 v3 I20 L15))))))))))))
set_option maxHeartbeats 4000000 in
set_option maxRecDepth 100000 in
theorem m_X3_priceFor_b111 {G : jG} {Z : jZ} {Q : Int32 → jI → jL → Prop} (E : jE G cX3_priceFor RX3 w_X3_priceFor 6 (some .int) { frames := 1, cells := 0, slots := 0, locals := 23 } (rtI Z Q)) (hZ : SH Z) (K4 : Nat → Nat → Int32 → Int32 → jI → jL → Prop) (hK4 : ∀ (v0 : Nat) (v1 : Nat) (v2 : Int32) (v3 : Int32) (I : jI) (L : jL), jk Z v0 3 → jk Z v1 14 → K4 v0 v1 v2 v3 I L → jJ G 6 4 [(0, .ref v0), (1, .ref v1), (2, .int v2), (3, .int v3)] [] Z I L 0 0) (v0 : Nat) (v1 : Nat) (v2 : Int32) (v3 : Int32) (v4 : Int32) (I : jI) (L : jL) (kv0 : jk Z v0 3) (kv1 : jk Z v1 14) (h : f_X3_priceFor_b111 K4 Z Q v0 v1 v2 v3 v4 I L) : jJ G 6 111 [(0, .ref v0), (1, .ref v1), (2, .int v2), (3, .int v3), (4, .int v4)] [] Z I L 0 0 := by
  refine j_iload_n E dX3_priceFor_111 2 rfl ?_
  refine j_iconst E (v := 1) dX3_priceFor_112 (by decide) ?_
  refine j_icmp_le E 150 dX3_priceFor_113 (by decide) (fun c5 => ?_) (fun c5 => ?_)
  · have h := h.1 c5
    refine j_sub [0, 1, 2, 3] rfl ?_
    exact m_X3_priceFor_b150 E hZ K4 hK4 v0 v1 v2 v3 I L kv0 kv1 h
  · have h := h.2 c5
    obtain ⟨x6, ex6⟩ : ∃ y : Int32, y = v2 + (-1) := ⟨_, rfl⟩
    have h := h x6 ex6
    refine j_iinc E x6 [(2, .int x6), (0, .ref v0), (1, .ref v1), (3, .int v3), (4, .int v4)] dX3_priceFor_116 2 rfl (by rw [ex6]; rfl) (by decide) rfl ?_
    refine j_aload_n E dX3_priceFor_119 1 rfl ?_
    obtain ⟨b7, eb7, kb7, lb7⟩ := sh_f hZ kv0 (j := 2) (k := 14) (m := 41) rfl
    have h := h b7 eb7
    refine j_getr E 3 2 rfl rfl (by decide) (by decide) (iw iT_3) rfl rfl (tw W_214) kv0 eb7 dX3_priceFor_120 ?_
    refine j_iload_n E dX3_priceFor_123 0 rfl ?_
    refine j_iconst E (v := 1) dX3_priceFor_124 (by decide) ?_
    refine j_isub E dX3_priceFor_125 ?_
    refine j_iload E dX3_priceFor_126 4 rfl ?_
    refine j_sipush E (v := 2000) dX3_priceFor_128 (by decide) ?_
    refine j_isub E dX3_priceFor_131 ?_
    refine j_aload_n E dX3_priceFor_132 1 rfl ?_
    obtain ⟨b8, eb8, kb8, lb8⟩ := sh_f hZ kv0 (j := 2) (k := 14) (m := 41) rfl
    have h := h b8 eb8
    refine j_getr E 3 2 rfl rfl (by decide) (by decide) (iw iT_3) rfl rfl (tw W_214) kv0 eb8 dX3_priceFor_133 ?_
    refine j_iload_n E dX3_priceFor_136 0 rfl ?_
    refine j_iconst E (v := 1) dX3_priceFor_137 (by decide) ?_
    refine j_isub E dX3_priceFor_138 ?_
    obtain ⟨o9, h⟩ := h
    refine j_iald E kb8 (by rw [lb8]; exact o9) dX3_priceFor_139 ?_
    refine j_aload_n E dX3_priceFor_140 1 rfl ?_
    obtain ⟨b10, eb10, kb10, lb10⟩ := sh_f hZ kv0 (j := 2) (k := 14) (m := 41) rfl
    have h := h b10 eb10
    refine j_getr E 3 2 rfl rfl (by decide) (by decide) (iw iT_3) rfl rfl (tw W_214) kv0 eb10 dX3_priceFor_141 ?_
    refine j_iload_n E dX3_priceFor_144 0 rfl ?_
    obtain ⟨o11, h⟩ := h
    refine j_iald E kb10 (by rw [lb10]; exact o11) dX3_priceFor_145 ?_
    refine j_callS E [.int (v4 - (2000 : Int32)), .int (I b8 (x6 - (1 : Int32)).toNatClampNeg), .int (I b10 x6.toNatClampNeg)] [.int (x6 - (1 : Int32)), .ref b7] (c_X3_join (gL G) (gD G) (gY G) (v4 - (2000 : Int32)) (I b8 (x6 - (1 : Int32)).toNatClampNeg) (I b10 x6.toNatClampNeg) Z I L _ hZ  h) (gwS W_217 W_218 W_179 W_216) rfl fy_X3_join ⟨by decide, by decide⟩ rfl rfl (Nat.le_of_ble_eq_true rfl) ⟨Nat.zero_le _, Nat.zero_le _⟩ dX3_priceFor_146 (fun v12 Z13 I14 L15 q16 => ?_)
    obtain ⟨rfl, r18, rfl, h⟩ := q16
    show jJ G 6 149 [(2, .int x6), (0, .ref v0), (1, .ref v1), (3, .int v3), (4, .int v4)] [.int r18, .int (x6 - (1 : Int32)), .ref b7] Z I14 L15 0 0
    obtain ⟨o19, h⟩ := h
    refine j_iast E kb7 (by rw [lb7]; exact o19) dX3_priceFor_149 ?_
    refine j_nmI (fun I20 eI20 => ?_)
    have h := h I20 eI20
    refine j_sub [1, 2, 0, 3] rfl ?_
    exact m_X3_priceFor_b150 E hZ K4 hK4 v0 v1 x6 v3 I20 L15 kv0 kv1 h
set_option maxRecDepth 100000 in
def f_X3_priceFor_b72 (K4 : Nat → Nat → Int32 → Int32 → jI → jL → Prop) (Z : jZ) (Q : Int32 → jI → jL → Prop) (v0 : Nat) (v1 : Nat) (v2 : Int32) (v3 : Int32) (s0 : Nat) (s1 : Int32) (s2 : Int32) (I : jI) (L : jL) : Prop := (vp_in s1 (jlen Z s0) ∧ (∀ I22 : jI, I22 = jpI I s0 s1.toNatClampNeg s2 → (∀ x23 : Int32, x23 = v2 + 1 → f_X3_priceFor_b150 K4 Z Q v0 v1 x23 v3 I22 L)))
set_option maxHeartbeats 4000000 in
set_option maxRecDepth 100000 in
theorem m_X3_priceFor_b72 {G : jG} {Z : jZ} {Q : Int32 → jI → jL → Prop} (E : jE G cX3_priceFor RX3 w_X3_priceFor 6 (some .int) { frames := 1, cells := 0, slots := 0, locals := 23 } (rtI Z Q)) (hZ : SH Z) (K4 : Nat → Nat → Int32 → Int32 → jI → jL → Prop) (hK4 : ∀ (v0 : Nat) (v1 : Nat) (v2 : Int32) (v3 : Int32) (I : jI) (L : jL), jk Z v0 3 → jk Z v1 14 → K4 v0 v1 v2 v3 I L → jJ G 6 4 [(0, .ref v0), (1, .ref v1), (2, .int v2), (3, .int v3)] [] Z I L 0 0) (v0 : Nat) (v1 : Nat) (v2 : Int32) (v3 : Int32) (s0 : Nat) (s1 : Int32) (s2 : Int32) (I : jI) (L : jL) (kv0 : jk Z v0 3) (kv1 : jk Z v1 14) (ks0 : jk Z s0 14) (h : f_X3_priceFor_b72 K4 Z Q v0 v1 v2 v3 s0 s1 s2 I L) : jJ G 6 72 [(0, .ref v0), (1, .ref v1), (2, .int v2), (3, .int v3)] [.int s2, .int s1, .ref s0] Z I L 0 0 := by
  obtain ⟨o21, h⟩ := h
  refine j_iast E ks0 o21 dX3_priceFor_72 ?_
  refine j_nmI (fun I22 eI22 => ?_)
  have h := h I22 eI22
  obtain ⟨x23, ex23⟩ : ∃ y : Int32, y = v2 + 1 := ⟨_, rfl⟩
  have h := h x23 ex23
  refine j_iinc E x23 [(2, .int x23), (0, .ref v0), (1, .ref v1), (3, .int v3)] dX3_priceFor_73 2 rfl (by rw [ex23]; rfl) (by decide) rfl ?_
  refine j_goto E 150 dX3_priceFor_76 (by decide) ?_
  refine j_sub [1, 2, 0, 3] rfl ?_
  exact m_X3_priceFor_b150 E hZ K4 hK4 v0 v1 x23 v3 I22 L kv0 kv1 h
set_option maxRecDepth 100000 in
def f_X3_priceFor_L4  (Z : jZ) (Q : Int32 → jI → jL → Prop) : Nat → Nat → Nat → Int32 → Int32 → jI → jL → Prop
  | 0 => fun _ _ _ _ _ _ => False
  | n + 1 => fun v0 v1 v2 v3 I L => (((I v0 3) ≤ v3 → f_X3_priceFor_b156  Z Q v0 v2 I L) ∧ (¬ ((I v0 3) ≤ v3) → (((40 : Int32) ≤ v3 → f_X3_priceFor_b156  Z Q v0 v2 I L) ∧ (¬ ((40 : Int32) ≤ v3) → (∀ b26 : Nat, jr Z v0 0 = some b26 → (vp_in v3 40 ∧ (∀ x28 : Int32, x28 = (I b26 v3.toNatClampNeg) → (((2000 : Int32) ≤ x28 → ((¬ x28 = (2000 : Int32) → f_X3_priceFor_b111 (f_X3_priceFor_L4 Z Q n) Z Q v0 v1 v2 v3 x28 I L) ∧ (x28 = (2000 : Int32) → ((v2 ≤ 0 → f_X3_priceFor_b111 (f_X3_priceFor_L4 Z Q n) Z Q v0 v1 v2 v3 x28 I L) ∧ (¬ (v2 ≤ 0) → (∀ b32 : Nat, jr Z v0 2 = some b32 → (∀ b33 : Nat, jr Z v0 2 = some b33 → (vp_in (v2 - (1 : Int32)) 41 ∧ (vp_in (v2 - (1 : Int32)) 41 ∧ (∀ I36 : jI, I36 = jpI I b32 (v2 - (1 : Int32)).toNatClampNeg (-(I b33 (v2 - (1 : Int32)).toNatClampNeg)) → f_X3_priceFor_b150 (f_X3_priceFor_L4 Z Q n) Z Q v0 v1 v2 v3 I36 L)))))))))) ∧ (¬ ((2000 : Int32) ≤ x28) → (∀ x37 : Int32, x37 = (x28 - (1000 : Int32)) → (∀ b38 : Nat, jr Z v0 2 = some b38 → ((0 ≤ x37 → (((nI (jlen Z v1)) ≤ x37 → f_X3_priceFor_b72 (f_X3_priceFor_L4 Z Q n) Z Q v0 v1 v2 v3 b38 v2 (0 : Int32) I L) ∧ (¬ ((nI (jlen Z v1)) ≤ x37) → (vp_in x37 (jlen Z v1) ∧ f_X3_priceFor_b72 (f_X3_priceFor_L4 Z Q n) Z Q v0 v1 v2 v3 b38 v2 (I v1 x37.toNatClampNeg) I L)))) ∧ (¬ (0 ≤ x37) → f_X3_priceFor_b72 (f_X3_priceFor_L4 Z Q n) Z Q v0 v1 v2 v3 b38 v2 x28 I L)))))))))))))
set_option maxHeartbeats 4000000 in
set_option maxRecDepth 100000 in
theorem m_X3_priceFor_L4 {G : jG} {Z : jZ} {Q : Int32 → jI → jL → Prop} (E : jE G cX3_priceFor RX3 w_X3_priceFor 6 (some .int) { frames := 1, cells := 0, slots := 0, locals := 23 } (rtI Z Q)) (hZ : SH Z)  : ∀ (n : Nat) (v0 : Nat) (v1 : Nat) (v2 : Int32) (v3 : Int32) (I : jI) (L : jL), jk Z v0 3 → jk Z v1 14 → f_X3_priceFor_L4  Z Q n v0 v1 v2 v3 I L → jJ G 6 4 [(0, .ref v0), (1, .ref v1), (2, .int v2), (3, .int v3)] [] Z I L 0 0 := by
  intro n
  induction n with
  | zero => intro v0 v1 v2 v3 I L _ _ h; exact h.elim
  | succ n ih =>
    intro v0 v1 v2 v3 I L kv0 kv1 h
    have h : (((I v0 3) ≤ v3 → f_X3_priceFor_b156  Z Q v0 v2 I L) ∧ (¬ ((I v0 3) ≤ v3) → (((40 : Int32) ≤ v3 → f_X3_priceFor_b156  Z Q v0 v2 I L) ∧ (¬ ((40 : Int32) ≤ v3) → (∀ b26 : Nat, jr Z v0 0 = some b26 → (vp_in v3 40 ∧ (∀ x28 : Int32, x28 = (I b26 v3.toNatClampNeg) → (((2000 : Int32) ≤ x28 → ((¬ x28 = (2000 : Int32) → f_X3_priceFor_b111 (f_X3_priceFor_L4 Z Q n) Z Q v0 v1 v2 v3 x28 I L) ∧ (x28 = (2000 : Int32) → ((v2 ≤ 0 → f_X3_priceFor_b111 (f_X3_priceFor_L4 Z Q n) Z Q v0 v1 v2 v3 x28 I L) ∧ (¬ (v2 ≤ 0) → (∀ b32 : Nat, jr Z v0 2 = some b32 → (∀ b33 : Nat, jr Z v0 2 = some b33 → (vp_in (v2 - (1 : Int32)) 41 ∧ (vp_in (v2 - (1 : Int32)) 41 ∧ (∀ I36 : jI, I36 = jpI I b32 (v2 - (1 : Int32)).toNatClampNeg (-(I b33 (v2 - (1 : Int32)).toNatClampNeg)) → f_X3_priceFor_b150 (f_X3_priceFor_L4 Z Q n) Z Q v0 v1 v2 v3 I36 L)))))))))) ∧ (¬ ((2000 : Int32) ≤ x28) → (∀ x37 : Int32, x37 = (x28 - (1000 : Int32)) → (∀ b38 : Nat, jr Z v0 2 = some b38 → ((0 ≤ x37 → (((nI (jlen Z v1)) ≤ x37 → f_X3_priceFor_b72 (f_X3_priceFor_L4 Z Q n) Z Q v0 v1 v2 v3 b38 v2 (0 : Int32) I L) ∧ (¬ ((nI (jlen Z v1)) ≤ x37) → (vp_in x37 (jlen Z v1) ∧ f_X3_priceFor_b72 (f_X3_priceFor_L4 Z Q n) Z Q v0 v1 v2 v3 b38 v2 (I v1 x37.toNatClampNeg) I L)))) ∧ (¬ (0 ≤ x37) → f_X3_priceFor_b72 (f_X3_priceFor_L4 Z Q n) Z Q v0 v1 v2 v3 b38 v2 x28 I L))))))))))))) := h
    obtain ⟨K4, eK4⟩ : ∃ K : Nat → Nat → Int32 → Int32 → jI → jL → Prop, K = f_X3_priceFor_L4  Z Q n := ⟨_, rfl⟩
    have hK4 := ih
    clear eK4 K4
    generalize f_X3_priceFor_L4  Z Q n = K4 at hK4 h
    refine j_iload_n E dX3_priceFor_4 3 rfl ?_
    refine j_aload_n E dX3_priceFor_5 0 rfl ?_
    refine j_geti E 3 3 rfl rfl (by decide) (by decide) (iw iT_3) rfl rfl (tw W_177) kv0 dX3_priceFor_6 ?_
    refine j_icmp_ge E 156 dX3_priceFor_9 (by decide) (fun c24 => ?_) (fun c24 => ?_)
    · have h := h.1 c24
      refine j_sub [0, 2] rfl ?_
      exact m_X3_priceFor_b156 E hZ  v0 v2 I L kv0 h
    · have h := h.2 c24
      refine j_iload_n E dX3_priceFor_12 3 rfl ?_
      refine j_bipush E (v := 40) dX3_priceFor_13 (by decide) ?_
      refine j_icmp_ge E 156 dX3_priceFor_15 (by decide) (fun c25 => ?_) (fun c25 => ?_)
      · have h := h.1 c25
        refine j_sub [0, 2] rfl ?_
        exact m_X3_priceFor_b156 E hZ  v0 v2 I L kv0 h
      · have h := h.2 c25
        refine j_aload_n E dX3_priceFor_18 0 rfl ?_
        obtain ⟨b26, eb26, kb26, lb26⟩ := sh_f hZ kv0 (j := 0) (k := 14) (m := 40) rfl
        have h := h b26 eb26
        refine j_getr E 3 0 rfl rfl (by decide) (by decide) (iw iT_3) rfl rfl (tw W_211) kv0 eb26 dX3_priceFor_19 ?_
        refine j_iload_n E dX3_priceFor_22 3 rfl ?_
        obtain ⟨o27, h⟩ := h
        refine j_iald E kb26 (by rw [lb26]; exact o27) dX3_priceFor_23 ?_
        refine j_topi (fun x28 ex28 => ?_)
        have h := h x28 ex28
        refine j_istore E 4 [(4, .int x28), (0, .ref v0), (1, .ref v1), (2, .int v2), (3, .int v3)] dX3_priceFor_24 (by decide) rfl ?_
        refine j_iload E dX3_priceFor_26 0 rfl ?_
        refine j_sipush E (v := 2000) dX3_priceFor_28 (by decide) ?_
        refine j_icmp_ge E 79 dX3_priceFor_31 (by decide) (fun c29 => ?_) (fun c29 => ?_)
        · have h := h.1 c29
          refine j_iload E dX3_priceFor_79 0 rfl ?_
          refine j_sipush E (v := 2000) dX3_priceFor_81 (by decide) ?_
          refine j_icmp_ne E 111 dX3_priceFor_84 (by decide) (fun c30 => ?_) (fun c30 => ?_)
          · have h := h.1 c30
            refine j_sub [1, 2, 3, 4, 0] rfl ?_
            exact m_X3_priceFor_b111 E hZ K4 hK4 v0 v1 v2 v3 x28 I L kv0 kv1 h
          · have h := h.2 c30
            refine j_iload_n E dX3_priceFor_87 3 rfl ?_
            refine j_if_le E 111 dX3_priceFor_88 (by decide) (fun c31 => ?_) (fun c31 => ?_)
            · have h := h.1 c31
              refine j_sub [1, 2, 3, 4, 0] rfl ?_
              exact m_X3_priceFor_b111 E hZ K4 hK4 v0 v1 v2 v3 x28 I L kv0 kv1 h
            · have h := h.2 c31
              refine j_aload_n E dX3_priceFor_91 1 rfl ?_
              obtain ⟨b32, eb32, kb32, lb32⟩ := sh_f hZ kv0 (j := 2) (k := 14) (m := 41) rfl
              have h := h b32 eb32
              refine j_getr E 3 2 rfl rfl (by decide) (by decide) (iw iT_3) rfl rfl (tw W_214) kv0 eb32 dX3_priceFor_92 ?_
              refine j_iload_n E dX3_priceFor_95 3 rfl ?_
              refine j_iconst E (v := 1) dX3_priceFor_96 (by decide) ?_
              refine j_isub E dX3_priceFor_97 ?_
              refine j_aload_n E dX3_priceFor_98 1 rfl ?_
              obtain ⟨b33, eb33, kb33, lb33⟩ := sh_f hZ kv0 (j := 2) (k := 14) (m := 41) rfl
              have h := h b33 eb33
              refine j_getr E 3 2 rfl rfl (by decide) (by decide) (iw iT_3) rfl rfl (tw W_214) kv0 eb33 dX3_priceFor_99 ?_
              refine j_iload_n E dX3_priceFor_102 3 rfl ?_
              refine j_iconst E (v := 1) dX3_priceFor_103 (by decide) ?_
              refine j_isub E dX3_priceFor_104 ?_
              obtain ⟨o34, h⟩ := h
              refine j_iald E kb33 (by rw [lb33]; exact o34) dX3_priceFor_105 ?_
              refine j_ineg E dX3_priceFor_106 ?_
              obtain ⟨o35, h⟩ := h
              refine j_iast E kb32 (by rw [lb32]; exact o35) dX3_priceFor_107 ?_
              refine j_nmI (fun I36 eI36 => ?_)
              have h := h I36 eI36
              refine j_goto E 150 dX3_priceFor_108 (by decide) ?_
              refine j_sub [1, 2, 3, 4] rfl ?_
              exact m_X3_priceFor_b150 E hZ K4 hK4 v0 v1 v2 v3 I36 L kv0 kv1 h
        · have h := h.2 c29
          refine j_iload E dX3_priceFor_34 0 rfl ?_
          refine j_sipush E (v := 1000) dX3_priceFor_36 (by decide) ?_
          refine j_isub E dX3_priceFor_39 ?_
          refine j_topi (fun x37 ex37 => ?_)
          have h := h x37 ex37
          refine j_istore E 5 [(5, .int x37), (4, .int x28), (0, .ref v0), (1, .ref v1), (2, .int v2), (3, .int v3)] dX3_priceFor_40 (by decide) rfl ?_
          refine j_aload_n E dX3_priceFor_42 2 rfl ?_
          obtain ⟨b38, eb38, kb38, lb38⟩ := sh_f hZ kv0 (j := 2) (k := 14) (m := 41) rfl
          have h := h b38 eb38
          refine j_getr E 3 2 rfl rfl (by decide) (by decide) (iw iT_3) rfl rfl (tw W_214) kv0 eb38 dX3_priceFor_43 ?_
          refine j_iload_n E dX3_priceFor_46 4 rfl ?_
          refine j_iload E dX3_priceFor_47 0 rfl ?_
          refine j_if_ge E 57 dX3_priceFor_49 (by decide) (fun c39 => ?_) (fun c39 => ?_)
          · have h := h.1 c39
            refine j_iload E dX3_priceFor_57 0 rfl ?_
            refine j_aload_n E dX3_priceFor_59 3 rfl ?_
            refine j_alen14 E kv1 rfl dX3_priceFor_60 ?_
            refine j_icmp_ge E 71 dX3_priceFor_61 (by decide) (fun c40 => ?_) (fun c40 => ?_)
            · have h := h.1 c40
              refine j_iconst E (v := 0) dX3_priceFor_71 (by decide) ?_
              refine j_sub [2, 3, 4, 5] rfl ?_
              exact m_X3_priceFor_b72 E hZ K4 hK4 v0 v1 v2 v3 b38 v2 (0 : Int32) I L kv0 kv1 kb38 h
            · have h := h.2 c40
              refine j_aload_n E dX3_priceFor_64 3 rfl ?_
              refine j_iload E dX3_priceFor_65 0 rfl ?_
              obtain ⟨o41, h⟩ := h
              refine j_iald E kv1 o41 dX3_priceFor_67 ?_
              refine j_goto E 72 dX3_priceFor_68 (by decide) ?_
              refine j_sub [2, 3, 4, 5] rfl ?_
              exact m_X3_priceFor_b72 E hZ K4 hK4 v0 v1 v2 v3 b38 v2 (I v1 x37.toNatClampNeg) I L kv0 kv1 kb38 h
          · have h := h.2 c39
            refine j_iload E dX3_priceFor_52 1 rfl ?_
            refine j_goto E 72 dX3_priceFor_54 (by decide) ?_
            refine j_sub [2, 3, 4, 5] rfl ?_
            exact m_X3_priceFor_b72 E hZ K4 hK4 v0 v1 v2 v3 b38 v2 x28 I L kv0 kv1 kb38 h
set_option maxRecDepth 100000 in
def f_X3_priceFor (v0 : Nat) (v1 : Nat) (Z : jZ) (I : jI) (L : jL) (Q : Int32 → jI → jL → Prop) : Prop := (∃ m4 : Nat, f_X3_priceFor_L4  Z Q m4 v0 v1 (0 : Int32) (0 : Int32) I L)
set_option maxHeartbeats 4000000 in
set_option maxRecDepth 100000 in
theorem c_X3_priceFor (l : Launch) (D : va_G) (cy : jC) (v0 : Nat) (v1 : Nat) (Z : jZ) (I : jI) (L : jL) (Q : Int32 → jI → jL → Prop) (hZ : SH Z) (kv0 : jk Z v0 3) (kv1 : jk Z v1 14) (h : f_X3_priceFor v0 v1 Z I L Q) : jCt l yX3_priceFor w_X3_priceFor { frames := 1, cells := 0, slots := 0, locals := 23 } D cy [.ref v0, .ref v1] Z I L (rtI Z Q) := by
  refine jCt_of (cc := cX3_priceFor) (maxL := 6) (ret := (some .int)) (by decide +kernel) rfl (Nat.le_of_ble_eq_true rfl) ?_
  intro G eD eY eL E
  subst eD; subst eY; subst eL
  have E : jE G cX3_priceFor RX3 w_X3_priceFor 6 (some .int) { frames := 1, cells := 0, slots := 0, locals := 23 } (rtI Z Q) := E
  show jJ G 6 0 [(0, .ref v0), (1, .ref v1)] [] Z I L 0 0
  refine j_iconst E (v := 0) dX3_priceFor_0 (by decide) ?_
  refine j_istore_n E 2 [(2, .int (0 : Int32)), (0, .ref v0), (1, .ref v1)] dX3_priceFor_1 rfl (by decide) rfl ?_
  refine j_iconst E (v := 0) dX3_priceFor_2 (by decide) ?_
  refine j_istore_n E 3 [(3, .int (0 : Int32)), (2, .int (0 : Int32)), (0, .ref v0), (1, .ref v1)] dX3_priceFor_3 rfl (by decide) rfl ?_
  obtain ⟨n42, h⟩ := h
  refine j_sub [2, 3, 1, 0] rfl ?_
  exact m_X3_priceFor_L4 E hZ  n42 v0 v1 (0 : Int32) (0 : Int32) I L kv0 kv1 h
set_option maxRecDepth 100000 in
def f_X11_isFamily (v0 : Int32) (Z : jZ) (I : jI) (L : jL) (Q : Int32 → jI → jL → Prop) : Prop := ((v0 < 0 → Q (0 : Int32) I L) ∧ (¬ (v0 < 0) → (((8 : Int32) ≤ v0 → Q (0 : Int32) I L) ∧ (¬ ((8 : Int32) ≤ v0) → Q (1 : Int32) I L))))
set_option maxHeartbeats 4000000 in
set_option maxRecDepth 100000 in
theorem c_X11_isFamily (l : Launch) (D : va_G) (cy : jC) (v0 : Int32) (Z : jZ) (I : jI) (L : jL) (Q : Int32 → jI → jL → Prop) (hZ : SH Z)  (h : f_X11_isFamily v0 Z I L Q) : jCt l yX11_isFamily w_X11_isFamily { frames := 0, cells := 0, slots := 0, locals := 0 } D cy [.int v0] Z I L (rtZ Z Q) := by
  refine jCt_of (cc := cX11_isFamily) (maxL := 1) (ret := (some .boolean)) (by decide +kernel) rfl (Nat.le_of_ble_eq_true rfl) ?_
  intro G eD eY eL E
  subst eD; subst eY; subst eL
  have E : jE G cX11_isFamily RX11 w_X11_isFamily 1 (some .boolean) { frames := 0, cells := 0, slots := 0, locals := 0 } (rtZ Z Q) := E
  show jJ G 1 0 [(0, .int v0)] [] Z I L 0 0
  refine j_iload_n E dX11_isFamily_0 0 rfl ?_
  refine j_if_lt E 14 dX11_isFamily_1 (by decide) (fun c1 => ?_) (fun c1 => ?_)
  · have h := h.1 c1
    refine j_iconst E (v := 0) dX11_isFamily_14 (by decide) ?_
    exact j_zreturn E (Or.inl rfl) ⟨rfl, _, rfl, (Or.inl rfl), h⟩ (Nat.zero_le _) (Nat.zero_le _) dX11_isFamily_15
  · have h := h.2 c1
    refine j_iload_n E dX11_isFamily_4 0 rfl ?_
    refine j_bipush E (v := 8) dX11_isFamily_5 (by decide) ?_
    refine j_icmp_ge E 14 dX11_isFamily_7 (by decide) (fun c2 => ?_) (fun c2 => ?_)
    · have h := h.1 c2
      refine j_iconst E (v := 0) dX11_isFamily_14 (by decide) ?_
      exact j_zreturn E (Or.inl rfl) ⟨rfl, _, rfl, (Or.inl rfl), h⟩ (Nat.zero_le _) (Nat.zero_le _) dX11_isFamily_15
    · have h := h.2 c2
      refine j_iconst E (v := 1) dX11_isFamily_10 (by decide) ?_
      refine j_goto E 15 dX11_isFamily_11 (by decide) ?_
      exact j_zreturn E (Or.inr rfl) ⟨rfl, _, rfl, (Or.inr rfl), h⟩ (Nat.zero_le _) (Nat.zero_le _) dX11_isFamily_15
set_option maxRecDepth 100000 in
def f_X4_deal_b58  (Z : jZ) (Q : jI → jL → Prop) (v0 : Nat) (I : jI) (L : jL) : Prop := (∀ I1 : jI, I1 = jpI I v0 4 (0 : Int32) → (f_X4_findMains v0 Z I1 L (fun I4 L5 => Q I4 L5)))
set_option maxHeartbeats 4000000 in
set_option maxRecDepth 100000 in
theorem m_X4_deal_b58 {G : jG} {Z : jZ} {Q : jI → jL → Prop} (E : jE G cX4_deal RX4 w_X4_deal 4 none { frames := 2, cells := 0, slots := 0, locals := 44 } (rtV Z Q)) (hZ : SH Z)  (v0 : Nat) (I : jI) (L : jL) (kv0 : jk Z v0 4) (h : f_X4_deal_b58  Z Q v0 I L) : jJ G 4 58 [(0, .ref v0)] [] Z I L 0 0 := by
  refine j_aload_n E dX4_deal_58 0 rfl ?_
  refine j_iconst E (v := 0) dX4_deal_59 (by decide) ?_
  refine j_puti E 4 4 rfl rfl (by decide) (by decide) (iw iT_4) tyX4_ok nmX4 rfl rfl (tw W_165) rfl rfl rfl kv0 dX4_deal_60 ?_
  refine j_nmI (fun I1 eI1 => ?_)
  have h := h I1 eI1
  refine j_aload_n E dX4_deal_63 0 rfl ?_
  refine j_callV E [] [] (c_X4_findMains (gL G) (gD G) (gY G) v0 Z I1 L _ hZ kv0 h) (gwV W_167 W_168 W_169 W_160 W_166) rfl ⟨rfl, fy_X4_findMains⟩ ⟨by decide, by decide⟩ (c := 4) rfl (by decide) kv0 rfl rfl (Nat.le_of_ble_eq_true rfl) ⟨Nat.zero_le _, Nat.zero_le _⟩ dX4_deal_64 (fun v2 Z3 I4 L5 q6 => ?_)
  obtain ⟨rfl, rfl, h⟩ := q6
  show jJ G 4 67 [(0, .ref v0)] [] Z I4 L5 0 0
  exact j_return E ⟨rfl, rfl, h⟩ (Nat.zero_le _) (Nat.zero_le _) dX4_deal_67
set_option maxRecDepth 100000 in
def f_X4_deal_b52 (K10 : Nat → Nat → Int32 → Int32 → jI → jL → Prop) (Z : jZ) (Q : jI → jL → Prop) (v0 : Nat) (v1 : Nat) (v2 : Int32) (v3 : Int32) (I : jI) (L : jL) : Prop := (∀ x8 : Int32, x8 = v3 + 1 → K10 v0 v1 v2 x8 I L)
set_option maxHeartbeats 4000000 in
set_option maxRecDepth 100000 in
theorem m_X4_deal_b52 {G : jG} {Z : jZ} {Q : jI → jL → Prop} (E : jE G cX4_deal RX4 w_X4_deal 4 none { frames := 2, cells := 0, slots := 0, locals := 44 } (rtV Z Q)) (hZ : SH Z) (K10 : Nat → Nat → Int32 → Int32 → jI → jL → Prop) (hK10 : ∀ (v0 : Nat) (v1 : Nat) (v2 : Int32) (v3 : Int32) (I : jI) (L : jL), jk Z v0 4 → jk Z v1 14 → K10 v0 v1 v2 v3 I L → jJ G 4 10 [(0, .ref v0), (1, .ref v1), (2, .int v2), (3, .int v3)] [] Z I L 0 0) (v0 : Nat) (v1 : Nat) (v2 : Int32) (v3 : Int32) (I : jI) (L : jL) (kv0 : jk Z v0 4) (kv1 : jk Z v1 14) (h : f_X4_deal_b52 K10 Z Q v0 v1 v2 v3 I L) : jJ G 4 52 [(0, .ref v0), (1, .ref v1), (2, .int v2), (3, .int v3)] [] Z I L 0 0 := by
  obtain ⟨x8, ex8⟩ : ∃ y : Int32, y = v3 + 1 := ⟨_, rfl⟩
  have h := h x8 ex8
  refine j_iinc E x8 [(3, .int x8), (0, .ref v0), (1, .ref v1), (2, .int v2)] dX4_deal_52 3 rfl (by rw [ex8]; rfl) (by decide) rfl ?_
  refine j_goto E 10 dX4_deal_55 (by decide) ?_
  refine j_sub [1, 2, 3, 0] rfl ?_
  exact hK10 v0 v1 v2 x8 I L kv0 kv1 h
set_option maxRecDepth 100000 in
def f_X4_deal_L10  (Z : jZ) (Q : jI → jL → Prop) : Nat → Nat → Nat → Int32 → Int32 → jI → jL → Prop
  | 0 => fun _ _ _ _ _ _ => False
  | n + 1 => fun v0 v1 v2 v3 I L => ((v2 ≤ v3 → f_X4_deal_b58  Z Q v0 I L) ∧ (¬ (v2 ≤ v3) → (((nI (jlen Z v1)) ≤ v3 → f_X4_deal_b58  Z Q v0 I L) ∧ (¬ ((nI (jlen Z v1)) ≤ v3) → (((24 : Int32) ≤ v3 → f_X4_deal_b58  Z Q v0 I L) ∧ (¬ ((24 : Int32) ≤ v3) → (vp_in v3 (jlen Z v1) ∧ (f_X11_isFamily (I v1 v3.toNatClampNeg) Z I L (fun r19 I15 L16 => ((r19 = 0 → f_X4_deal_b52 (f_X4_deal_L10 Z Q n) Z Q v0 v1 v2 v3 I15 L16) ∧ (¬ (r19 = 0) → (∀ b21 : Nat, jr Z v0 0 = some b21 → (vp_in v3 (jlen Z v1) ∧ (vp_in ((v3 * (8 : Int32)) + (I15 v1 v3.toNatClampNeg)) 192 ∧ (∀ I24 : jI, I24 = jpI I15 b21 ((v3 * (8 : Int32)) + (I15 v1 v3.toNatClampNeg)).toNatClampNeg (720 : Int32) → f_X4_deal_b52 (f_X4_deal_L10 Z Q n) Z Q v0 v1 v2 v3 I24 L16)))))))))))))))
set_option maxHeartbeats 4000000 in
set_option maxRecDepth 100000 in
theorem m_X4_deal_L10 {G : jG} {Z : jZ} {Q : jI → jL → Prop} (E : jE G cX4_deal RX4 w_X4_deal 4 none { frames := 2, cells := 0, slots := 0, locals := 44 } (rtV Z Q)) (hZ : SH Z)  : ∀ (n : Nat) (v0 : Nat) (v1 : Nat) (v2 : Int32) (v3 : Int32) (I : jI) (L : jL), jk Z v0 4 → jk Z v1 14 → f_X4_deal_L10  Z Q n v0 v1 v2 v3 I L → jJ G 4 10 [(0, .ref v0), (1, .ref v1), (2, .int v2), (3, .int v3)] [] Z I L 0 0 := by
  intro n
  induction n with
  | zero => intro v0 v1 v2 v3 I L _ _ h; exact h.elim
  | succ n ih =>
    intro v0 v1 v2 v3 I L kv0 kv1 h
    have h : ((v2 ≤ v3 → f_X4_deal_b58  Z Q v0 I L) ∧ (¬ (v2 ≤ v3) → (((nI (jlen Z v1)) ≤ v3 → f_X4_deal_b58  Z Q v0 I L) ∧ (¬ ((nI (jlen Z v1)) ≤ v3) → (((24 : Int32) ≤ v3 → f_X4_deal_b58  Z Q v0 I L) ∧ (¬ ((24 : Int32) ≤ v3) → (vp_in v3 (jlen Z v1) ∧ (f_X11_isFamily (I v1 v3.toNatClampNeg) Z I L (fun r19 I15 L16 => ((r19 = 0 → f_X4_deal_b52 (f_X4_deal_L10 Z Q n) Z Q v0 v1 v2 v3 I15 L16) ∧ (¬ (r19 = 0) → (∀ b21 : Nat, jr Z v0 0 = some b21 → (vp_in v3 (jlen Z v1) ∧ (vp_in ((v3 * (8 : Int32)) + (I15 v1 v3.toNatClampNeg)) 192 ∧ (∀ I24 : jI, I24 = jpI I15 b21 ((v3 * (8 : Int32)) + (I15 v1 v3.toNatClampNeg)).toNatClampNeg (720 : Int32) → f_X4_deal_b52 (f_X4_deal_L10 Z Q n) Z Q v0 v1 v2 v3 I24 L16))))))))))))))) := h
    obtain ⟨K10, eK10⟩ : ∃ K : Nat → Nat → Int32 → Int32 → jI → jL → Prop, K = f_X4_deal_L10  Z Q n := ⟨_, rfl⟩
    have hK10 := ih
    clear eK10 K10
    generalize f_X4_deal_L10  Z Q n = K10 at hK10 h
    refine j_iload_n E dX4_deal_10 3 rfl ?_
    refine j_iload_n E dX4_deal_11 2 rfl ?_
    refine j_icmp_ge E 58 dX4_deal_12 (by decide) (fun c9 => ?_) (fun c9 => ?_)
    · have h := h.1 c9
      refine j_sub [0] rfl ?_
      exact m_X4_deal_b58 E hZ  v0 I L kv0 h
    · have h := h.2 c9
      refine j_iload_n E dX4_deal_15 3 rfl ?_
      refine j_aload_n E dX4_deal_16 1 rfl ?_
      refine j_alen14 E kv1 rfl dX4_deal_17 ?_
      refine j_icmp_ge E 58 dX4_deal_18 (by decide) (fun c10 => ?_) (fun c10 => ?_)
      · have h := h.1 c10
        refine j_sub [0] rfl ?_
        exact m_X4_deal_b58 E hZ  v0 I L kv0 h
      · have h := h.2 c10
        refine j_iload_n E dX4_deal_21 3 rfl ?_
        refine j_bipush E (v := 24) dX4_deal_22 (by decide) ?_
        refine j_icmp_ge E 58 dX4_deal_24 (by decide) (fun c11 => ?_) (fun c11 => ?_)
        · have h := h.1 c11
          refine j_sub [0] rfl ?_
          exact m_X4_deal_b58 E hZ  v0 I L kv0 h
        · have h := h.2 c11
          refine j_aload_n E dX4_deal_27 1 rfl ?_
          refine j_iload_n E dX4_deal_28 3 rfl ?_
          obtain ⟨o12, h⟩ := h
          refine j_iald E kv1 o12 dX4_deal_29 ?_
          refine j_callSN E [.int (I v1 v3.toNatClampNeg)] [] (c_X11_isFamily (gL G) (gD G) (gY G) (I v1 v3.toNatClampNeg) Z I L _ hZ  h) (gwN W_219) rfl (nm_X11_isFamily_X4_34) (tw W_40) (tw W_220) fy_X11_isFamily ⟨by decide, by decide⟩ rfl rfl (Nat.le_of_ble_eq_true rfl) ⟨Nat.zero_le _, Nat.zero_le _⟩ dX4_deal_30 (fun v13 Z14 I15 L16 q17 => ?_)
          obtain ⟨rfl, r19, rfl, zr19, h⟩ := q17
          show jJ G 4 33 [(0, .ref v0), (1, .ref v1), (2, .int v2), (3, .int v3)] [.int r19] Z I15 L16 0 0
          refine j_if_eq E 52 dX4_deal_33 (by decide) (fun c20 => ?_) (fun c20 => ?_)
          · have h := h.1 c20
            refine j_sub [0, 1, 2, 3] rfl ?_
            exact m_X4_deal_b52 E hZ K10 hK10 v0 v1 v2 v3 I15 L16 kv0 kv1 h
          · have h := h.2 c20
            refine j_aload_n E dX4_deal_36 0 rfl ?_
            obtain ⟨b21, eb21, kb21, lb21⟩ := sh_f hZ kv0 (j := 0) (k := 14) (m := 192) rfl
            have h := h b21 eb21
            refine j_getr E 4 0 rfl rfl (by decide) (by decide) (iw iT_4) rfl rfl (tw W_158) kv0 eb21 dX4_deal_37 ?_
            refine j_iload_n E dX4_deal_40 3 rfl ?_
            refine j_bipush E (v := 8) dX4_deal_41 (by decide) ?_
            refine j_imul E dX4_deal_43 ?_
            refine j_aload_n E dX4_deal_44 1 rfl ?_
            refine j_iload_n E dX4_deal_45 3 rfl ?_
            obtain ⟨o22, h⟩ := h
            refine j_iald E kv1 o22 dX4_deal_46 ?_
            refine j_iadd E dX4_deal_47 ?_
            refine j_sipush E (v := 720) dX4_deal_48 (by decide) ?_
            obtain ⟨o23, h⟩ := h
            refine j_iast E kb21 (by rw [lb21]; exact o23) dX4_deal_51 ?_
            refine j_nmI (fun I24 eI24 => ?_)
            have h := h I24 eI24
            refine j_sub [0, 1, 2, 3] rfl ?_
            exact m_X4_deal_b52 E hZ K10 hK10 v0 v1 v2 v3 I24 L16 kv0 kv1 h
set_option maxRecDepth 100000 in
def f_X4_deal (v0 : Nat) (v1 : Nat) (v2 : Int32) (Z : jZ) (I : jI) (L : jL) (Q : jI → jL → Prop) : Prop := (∀ b25 : Nat, jr Z v0 0 = some b25 → (f_J7_fill_53178 b25 (0 : Int32) Z I L (fun I28 L29 => (∃ m10 : Nat, f_X4_deal_L10  Z Q m10 v0 v1 v2 (0 : Int32) I28 L29))))
set_option maxHeartbeats 4000000 in
set_option maxRecDepth 100000 in
theorem c_X4_deal (l : Launch) (D : va_G) (cy : jC) (v0 : Nat) (v1 : Nat) (v2 : Int32) (Z : jZ) (I : jI) (L : jL) (Q : jI → jL → Prop) (hZ : SH Z) (kv0 : jk Z v0 4) (kv1 : jk Z v1 14) (h : f_X4_deal v0 v1 v2 Z I L Q) : jCt l yX4_deal w_X4_deal { frames := 2, cells := 0, slots := 0, locals := 44 } D cy [.ref v0, .ref v1, .int v2] Z I L (rtV Z Q) := by
  refine jCt_of (cc := cX4_deal) (maxL := 4) (ret := none) (by decide +kernel) rfl (Nat.le_of_ble_eq_true rfl) ?_
  intro G eD eY eL E
  subst eD; subst eY; subst eL
  have E : jE G cX4_deal RX4 w_X4_deal 4 none { frames := 2, cells := 0, slots := 0, locals := 44 } (rtV Z Q) := E
  show jJ G 4 0 [(0, .ref v0), (1, .ref v1), (2, .int v2)] [] Z I L 0 0
  refine j_aload_n E dX4_deal_0 0 rfl ?_
  obtain ⟨b25, eb25, kb25, lb25⟩ := sh_f hZ kv0 (j := 0) (k := 14) (m := 192) rfl
  have h := h b25 eb25
  refine j_getr E 4 0 rfl rfl (by decide) (by decide) (iw iT_4) rfl rfl (tw W_158) kv0 eb25 dX4_deal_1 ?_
  refine j_iconst E (v := 0) dX4_deal_4 (by decide) ?_
  refine j_callS E [.ref b25, .int (0 : Int32)] [] (c_J7_fill_53178 (gL G) (gD G) (gY G) b25 (0 : Int32) Z I L _ hZ kb25 h) (gwS W_221 W_22 W_17 W_20) rfl fy_J7_fill_53178 ⟨by decide, by decide⟩ rfl rfl (Nat.le_of_ble_eq_true rfl) ⟨Nat.zero_le _, Nat.zero_le _⟩ dX4_deal_5 (fun v26 Z27 I28 L29 q30 => ?_)
  obtain ⟨rfl, rfl, h⟩ := q30
  show jJ G 4 8 [(0, .ref v0), (1, .ref v1), (2, .int v2)] [] Z I28 L29 0 0
  refine j_iconst E (v := 0) dX4_deal_8 (by decide) ?_
  refine j_istore_n E 3 [(3, .int (0 : Int32)), (0, .ref v0), (1, .ref v1), (2, .int v2)] dX4_deal_9 rfl (by decide) rfl ?_
  obtain ⟨n32, h⟩ := h
  refine j_sub [1, 2, 3, 0] rfl ?_
  exact m_X4_deal_L10 E hZ  n32 v0 v1 v2 (0 : Int32) I28 L29 kv0 kv1 h
set_option maxRecDepth 100000 in
def f_X4_mainOf (v0 : Nat) (v1 : Int32) (Z : jZ) (I : jI) (L : jL) (Q : Int32 → jI → jL → Prop) : Prop := ((v1 < 0 → Q (0 : Int32) I L) ∧ (¬ (v1 < 0) → (((24 : Int32) ≤ v1 → Q (0 : Int32) I L) ∧ (¬ ((24 : Int32) ≤ v1) → (∀ b3 : Nat, jr Z v0 1 = some b3 → (vp_in v1 24 ∧ Q (I b3 v1.toNatClampNeg) I L))))))
set_option maxHeartbeats 4000000 in
set_option maxRecDepth 100000 in
theorem c_X4_mainOf (l : Launch) (D : va_G) (cy : jC) (v0 : Nat) (v1 : Int32) (Z : jZ) (I : jI) (L : jL) (Q : Int32 → jI → jL → Prop) (hZ : SH Z) (kv0 : jk Z v0 4) (h : f_X4_mainOf v0 v1 Z I L Q) : jCt l yX4_mainOf w_X4_mainOf { frames := 0, cells := 0, slots := 0, locals := 0 } D cy [.ref v0, .int v1] Z I L (rtI Z Q) := by
  refine jCt_of (cc := cX4_mainOf) (maxL := 2) (ret := (some .int)) (by decide +kernel) rfl (Nat.le_of_ble_eq_true rfl) ?_
  intro G eD eY eL E
  subst eD; subst eY; subst eL
  have E : jE G cX4_mainOf RX4 w_X4_mainOf 2 (some .int) { frames := 0, cells := 0, slots := 0, locals := 0 } (rtI Z Q) := E
  show jJ G 2 0 [(0, .ref v0), (1, .int v1)] [] Z I L 0 0
  refine j_iload_n E dX4_mainOf_0 1 rfl ?_
  refine j_if_lt E 19 dX4_mainOf_1 (by decide) (fun c1 => ?_) (fun c1 => ?_)
  · have h := h.1 c1
    refine j_iconst E (v := 0) dX4_mainOf_19 (by decide) ?_
    exact j_ireturn E ⟨rfl, _, rfl, h⟩ (Nat.zero_le _) (Nat.zero_le _) dX4_mainOf_20
  · have h := h.2 c1
    refine j_iload_n E dX4_mainOf_4 1 rfl ?_
    refine j_bipush E (v := 24) dX4_mainOf_5 (by decide) ?_
    refine j_icmp_ge E 19 dX4_mainOf_7 (by decide) (fun c2 => ?_) (fun c2 => ?_)
    · have h := h.1 c2
      refine j_iconst E (v := 0) dX4_mainOf_19 (by decide) ?_
      exact j_ireturn E ⟨rfl, _, rfl, h⟩ (Nat.zero_le _) (Nat.zero_le _) dX4_mainOf_20
    · have h := h.2 c2
      refine j_aload_n E dX4_mainOf_10 0 rfl ?_
      obtain ⟨b3, eb3, kb3, lb3⟩ := sh_f hZ kv0 (j := 1) (k := 14) (m := 24) rfl
      have h := h b3 eb3
      refine j_getr E 4 1 rfl rfl (by decide) (by decide) (iw iT_4) rfl rfl (tw W_157) kv0 eb3 dX4_mainOf_11 ?_
      refine j_iload_n E dX4_mainOf_14 1 rfl ?_
      obtain ⟨o4, h⟩ := h
      refine j_iald E kb3 (by rw [lb3]; exact o4) dX4_mainOf_15 ?_
      refine j_goto E 20 dX4_mainOf_16 (by decide) ?_
      exact j_ireturn E ⟨rfl, _, rfl, h⟩ (Nat.zero_le _) (Nat.zero_le _) dX4_mainOf_20
set_option maxRecDepth 100000 in
def f_X4_shareOf (v0 : Nat) (v1 : Int32) (v2 : Int32) (Z : jZ) (I : jI) (L : jL) (Q : Int32 → jI → jL → Prop) : Prop := ((v1 < 0 → Q (0 : Int32) I L) ∧ (¬ (v1 < 0) → (((24 : Int32) ≤ v1 → Q (0 : Int32) I L) ∧ (¬ ((24 : Int32) ≤ v1) → (f_X11_isFamily v2 Z I L (fun r9 I5 L6 => ((r9 = 0 → Q (0 : Int32) I5 L6) ∧ (¬ (r9 = 0) → (∀ b11 : Nat, jr Z v0 0 = some b11 → (vp_in ((v1 * (8 : Int32)) + v2) 192 ∧ Q (I5 b11 ((v1 * (8 : Int32)) + v2).toNatClampNeg) I5 L6))))))))))
set_option maxHeartbeats 4000000 in
set_option maxRecDepth 100000 in
theorem c_X4_shareOf (l : Launch) (D : va_G) (cy : jC) (v0 : Nat) (v1 : Int32) (v2 : Int32) (Z : jZ) (I : jI) (L : jL) (Q : Int32 → jI → jL → Prop) (hZ : SH Z) (kv0 : jk Z v0 4) (h : f_X4_shareOf v0 v1 v2 Z I L Q) : jCt l yX4_shareOf w_X4_shareOf { frames := 1, cells := 0, slots := 0, locals := 20 } D cy [.ref v0, .int v1, .int v2] Z I L (rtI Z Q) := by
  refine jCt_of (cc := cX4_shareOf) (maxL := 3) (ret := (some .int)) (by decide +kernel) rfl (Nat.le_of_ble_eq_true rfl) ?_
  intro G eD eY eL E
  subst eD; subst eY; subst eL
  have E : jE G cX4_shareOf RX4 w_X4_shareOf 3 (some .int) { frames := 1, cells := 0, slots := 0, locals := 20 } (rtI Z Q) := E
  show jJ G 3 0 [(0, .ref v0), (1, .int v1), (2, .int v2)] [] Z I L 0 0
  refine j_iload_n E dX4_shareOf_0 1 rfl ?_
  refine j_if_lt E 31 dX4_shareOf_1 (by decide) (fun c1 => ?_) (fun c1 => ?_)
  · have h := h.1 c1
    refine j_iconst E (v := 0) dX4_shareOf_31 (by decide) ?_
    exact j_ireturn E ⟨rfl, _, rfl, h⟩ (Nat.zero_le _) (Nat.zero_le _) dX4_shareOf_32
  · have h := h.2 c1
    refine j_iload_n E dX4_shareOf_4 1 rfl ?_
    refine j_bipush E (v := 24) dX4_shareOf_5 (by decide) ?_
    refine j_icmp_ge E 31 dX4_shareOf_7 (by decide) (fun c2 => ?_) (fun c2 => ?_)
    · have h := h.1 c2
      refine j_iconst E (v := 0) dX4_shareOf_31 (by decide) ?_
      exact j_ireturn E ⟨rfl, _, rfl, h⟩ (Nat.zero_le _) (Nat.zero_le _) dX4_shareOf_32
    · have h := h.2 c2
      refine j_iload_n E dX4_shareOf_10 2 rfl ?_
      refine j_callSN E [.int v2] [] (c_X11_isFamily (gL G) (gD G) (gY G) v2 Z I L _ hZ  h) (gwN W_219) rfl (nm_X11_isFamily_X4_34) (tw W_40) (tw W_220) fy_X11_isFamily ⟨by decide, by decide⟩ rfl rfl (Nat.le_of_ble_eq_true rfl) ⟨Nat.zero_le _, Nat.zero_le _⟩ dX4_shareOf_11 (fun v3 Z4 I5 L6 q7 => ?_)
      obtain ⟨rfl, r9, rfl, zr9, h⟩ := q7
      show jJ G 3 14 [(0, .ref v0), (1, .int v1), (2, .int v2)] [.int r9] Z I5 L6 0 0
      refine j_if_eq E 31 dX4_shareOf_14 (by decide) (fun c10 => ?_) (fun c10 => ?_)
      · have h := h.1 c10
        refine j_iconst E (v := 0) dX4_shareOf_31 (by decide) ?_
        exact j_ireturn E ⟨rfl, _, rfl, h⟩ (Nat.zero_le _) (Nat.zero_le _) dX4_shareOf_32
      · have h := h.2 c10
        refine j_aload_n E dX4_shareOf_17 0 rfl ?_
        obtain ⟨b11, eb11, kb11, lb11⟩ := sh_f hZ kv0 (j := 0) (k := 14) (m := 192) rfl
        have h := h b11 eb11
        refine j_getr E 4 0 rfl rfl (by decide) (by decide) (iw iT_4) rfl rfl (tw W_158) kv0 eb11 dX4_shareOf_18 ?_
        refine j_iload_n E dX4_shareOf_21 1 rfl ?_
        refine j_bipush E (v := 8) dX4_shareOf_22 (by decide) ?_
        refine j_imul E dX4_shareOf_24 ?_
        refine j_iload_n E dX4_shareOf_25 2 rfl ?_
        refine j_iadd E dX4_shareOf_26 ?_
        obtain ⟨o12, h⟩ := h
        refine j_iald E kb11 (by rw [lb11]; exact o12) dX4_shareOf_27 ?_
        refine j_goto E 32 dX4_shareOf_28 (by decide) ?_
        exact j_ireturn E ⟨rfl, _, rfl, h⟩ (Nat.zero_le _) (Nat.zero_le _) dX4_shareOf_32
set_option maxRecDepth 100000 in
def f_X4_sumOf_L4  (Z : jZ) (Q : Int32 → jI → jL → Prop) : Nat → Nat → Int32 → Int32 → Int32 → jI → jL → Prop
  | 0 => fun _ _ _ _ _ _ => False
  | n + 1 => fun v0 v1 v2 v3 I L => (((24 : Int32) ≤ v3 → Q v2 I L) ∧ (¬ ((24 : Int32) ≤ v3) → (f_X4_shareOf v0 v3 v1 Z I L (fun r8 I4 L5 => (∀ x9 : Int32, x9 = (v2 + r8) → (∀ x10 : Int32, x10 = v3 + 1 → (f_X4_sumOf_L4 Z Q n) v0 v1 x9 x10 I4 L5))))))
set_option maxHeartbeats 4000000 in
set_option maxRecDepth 100000 in
theorem m_X4_sumOf_L4 {G : jG} {Z : jZ} {Q : Int32 → jI → jL → Prop} (E : jE G cX4_sumOf RX4 w_X4_sumOf 4 (some .int) { frames := 2, cells := 0, slots := 0, locals := 42 } (rtI Z Q)) (hZ : SH Z)  : ∀ (n : Nat) (v0 : Nat) (v1 : Int32) (v2 : Int32) (v3 : Int32) (I : jI) (L : jL), jk Z v0 4 → f_X4_sumOf_L4  Z Q n v0 v1 v2 v3 I L → jJ G 4 4 [(0, .ref v0), (1, .int v1), (2, .int v2), (3, .int v3)] [] Z I L 0 0 := by
  intro n
  induction n with
  | zero => intro v0 v1 v2 v3 I L _ h; exact h.elim
  | succ n ih =>
    intro v0 v1 v2 v3 I L kv0 h
    have h : (((24 : Int32) ≤ v3 → Q v2 I L) ∧ (¬ ((24 : Int32) ≤ v3) → (f_X4_shareOf v0 v3 v1 Z I L (fun r8 I4 L5 => (∀ x9 : Int32, x9 = (v2 + r8) → (∀ x10 : Int32, x10 = v3 + 1 → (f_X4_sumOf_L4 Z Q n) v0 v1 x9 x10 I4 L5)))))) := h
    obtain ⟨K4, eK4⟩ : ∃ K : Nat → Int32 → Int32 → Int32 → jI → jL → Prop, K = f_X4_sumOf_L4  Z Q n := ⟨_, rfl⟩
    have hK4 := ih
    clear eK4 K4
    generalize f_X4_sumOf_L4  Z Q n = K4 at hK4 h
    refine j_iload_n E dX4_sumOf_4 3 rfl ?_
    refine j_bipush E (v := 24) dX4_sumOf_5 (by decide) ?_
    refine j_icmp_ge E 25 dX4_sumOf_7 (by decide) (fun c1 => ?_) (fun c1 => ?_)
    · have h := h.1 c1
      refine j_iload_n E dX4_sumOf_25 2 rfl ?_
      exact j_ireturn E ⟨rfl, _, rfl, h⟩ (Nat.zero_le _) (Nat.zero_le _) dX4_sumOf_26
    · have h := h.2 c1
      refine j_iload_n E dX4_sumOf_10 2 rfl ?_
      refine j_aload_n E dX4_sumOf_11 0 rfl ?_
      refine j_iload_n E dX4_sumOf_12 3 rfl ?_
      refine j_iload_n E dX4_sumOf_13 1 rfl ?_
      refine j_callV E [.int v3, .int v1] [.int v2] (c_X4_shareOf (gL G) (gD G) (gY G) v0 v3 v1 Z I L _ hZ kv0 h) (gwV W_223 W_224 W_225 W_160 W_222) rfl ⟨rfl, fy_X4_shareOf⟩ ⟨by decide, by decide⟩ (c := 4) rfl (by decide) kv0 rfl rfl (Nat.le_of_ble_eq_true rfl) ⟨Nat.zero_le _, Nat.zero_le _⟩ dX4_sumOf_14 (fun v2 Z3 I4 L5 q6 => ?_)
      obtain ⟨rfl, r8, rfl, h⟩ := q6
      show jJ G 4 17 [(0, .ref v0), (1, .int v1), (2, .int v2), (3, .int v3)] [.int r8, .int v2] Z I4 L5 0 0
      refine j_iadd E dX4_sumOf_17 ?_
      refine j_topi (fun x9 ex9 => ?_)
      have h := h x9 ex9
      refine j_istore_n E 2 [(2, .int x9), (0, .ref v0), (1, .int v1), (3, .int v3)] dX4_sumOf_18 rfl (by decide) rfl ?_
      obtain ⟨x10, ex10⟩ : ∃ y : Int32, y = v3 + 1 := ⟨_, rfl⟩
      have h := h x10 ex10
      refine j_iinc E x10 [(3, .int x10), (2, .int x9), (0, .ref v0), (1, .int v1)] dX4_sumOf_19 3 rfl (by rw [ex10]; rfl) (by decide) rfl ?_
      refine j_goto E 4 dX4_sumOf_22 (by decide) ?_
      refine j_sub [2, 3, 1, 0] rfl ?_
      exact hK4 v0 v1 x9 x10 I4 L5 kv0 h
set_option maxRecDepth 100000 in
def f_X4_sumOf (v0 : Nat) (v1 : Int32) (Z : jZ) (I : jI) (L : jL) (Q : Int32 → jI → jL → Prop) : Prop := (∃ m4 : Nat, f_X4_sumOf_L4  Z Q m4 v0 v1 (0 : Int32) (0 : Int32) I L)
set_option maxHeartbeats 4000000 in
set_option maxRecDepth 100000 in
theorem c_X4_sumOf (l : Launch) (D : va_G) (cy : jC) (v0 : Nat) (v1 : Int32) (Z : jZ) (I : jI) (L : jL) (Q : Int32 → jI → jL → Prop) (hZ : SH Z) (kv0 : jk Z v0 4) (h : f_X4_sumOf v0 v1 Z I L Q) : jCt l yX4_sumOf w_X4_sumOf { frames := 2, cells := 0, slots := 0, locals := 42 } D cy [.ref v0, .int v1] Z I L (rtI Z Q) := by
  refine jCt_of (cc := cX4_sumOf) (maxL := 4) (ret := (some .int)) (by decide +kernel) rfl (Nat.le_of_ble_eq_true rfl) ?_
  intro G eD eY eL E
  subst eD; subst eY; subst eL
  have E : jE G cX4_sumOf RX4 w_X4_sumOf 4 (some .int) { frames := 2, cells := 0, slots := 0, locals := 42 } (rtI Z Q) := E
  show jJ G 4 0 [(0, .ref v0), (1, .int v1)] [] Z I L 0 0
  refine j_iconst E (v := 0) dX4_sumOf_0 (by decide) ?_
  refine j_istore_n E 2 [(2, .int (0 : Int32)), (0, .ref v0), (1, .int v1)] dX4_sumOf_1 rfl (by decide) rfl ?_
  refine j_iconst E (v := 0) dX4_sumOf_2 (by decide) ?_
  refine j_istore_n E 3 [(3, .int (0 : Int32)), (2, .int (0 : Int32)), (0, .ref v0), (1, .int v1)] dX4_sumOf_3 rfl (by decide) rfl ?_
  obtain ⟨n11, h⟩ := h
  refine j_sub [2, 3, 1, 0] rfl ?_
  exact m_X4_sumOf_L4 E hZ  n11 v0 v1 (0 : Int32) (0 : Int32) I L kv0 h
set_option maxRecDepth 100000 in
def f_X4_shareInto_L2  (Z : jZ) (Q : jI → jL → Prop) : Nat → Nat → Int32 → Nat → Int32 → jI → jL → Prop
  | 0 => fun _ _ _ _ _ _ => False
  | n + 1 => fun v0 v1 v2 v3 I L => (((8 : Int32) ≤ v3 → Q I L) ∧ (¬ ((8 : Int32) ≤ v3) → (((nI (jlen Z v2)) ≤ v3 → Q I L) ∧ (¬ ((nI (jlen Z v2)) ≤ v3) → (f_X4_shareOf v0 v1 v3 Z I L (fun r9 I5 L6 => (vp_in v3 (jlen Z v2) ∧ (∀ I11 : jI, I11 = jpI I5 v2 v3.toNatClampNeg r9 → (∀ x12 : Int32, x12 = v3 + 1 → (f_X4_shareInto_L2 Z Q n) v0 v1 v2 x12 I11 L6)))))))))
set_option maxHeartbeats 4000000 in
set_option maxRecDepth 100000 in
theorem m_X4_shareInto_L2 {G : jG} {Z : jZ} {Q : jI → jL → Prop} (E : jE G cX4_shareInto RX4 w_X4_shareInto 4 none { frames := 2, cells := 0, slots := 0, locals := 42 } (rtV Z Q)) (hZ : SH Z)  : ∀ (n : Nat) (v0 : Nat) (v1 : Int32) (v2 : Nat) (v3 : Int32) (I : jI) (L : jL), jk Z v0 4 → jk Z v2 14 → f_X4_shareInto_L2  Z Q n v0 v1 v2 v3 I L → jJ G 4 2 [(0, .ref v0), (1, .int v1), (2, .ref v2), (3, .int v3)] [] Z I L 0 0 := by
  intro n
  induction n with
  | zero => intro v0 v1 v2 v3 I L _ _ h; exact h.elim
  | succ n ih =>
    intro v0 v1 v2 v3 I L kv0 kv2 h
    have h : (((8 : Int32) ≤ v3 → Q I L) ∧ (¬ ((8 : Int32) ≤ v3) → (((nI (jlen Z v2)) ≤ v3 → Q I L) ∧ (¬ ((nI (jlen Z v2)) ≤ v3) → (f_X4_shareOf v0 v1 v3 Z I L (fun r9 I5 L6 => (vp_in v3 (jlen Z v2) ∧ (∀ I11 : jI, I11 = jpI I5 v2 v3.toNatClampNeg r9 → (∀ x12 : Int32, x12 = v3 + 1 → (f_X4_shareInto_L2 Z Q n) v0 v1 v2 x12 I11 L6))))))))) := h
    obtain ⟨K2, eK2⟩ : ∃ K : Nat → Int32 → Nat → Int32 → jI → jL → Prop, K = f_X4_shareInto_L2  Z Q n := ⟨_, rfl⟩
    have hK2 := ih
    clear eK2 K2
    generalize f_X4_shareInto_L2  Z Q n = K2 at hK2 h
    refine j_iload_n E dX4_shareInto_2 3 rfl ?_
    refine j_bipush E (v := 8) dX4_shareInto_3 (by decide) ?_
    refine j_icmp_ge E 29 dX4_shareInto_5 (by decide) (fun c1 => ?_) (fun c1 => ?_)
    · have h := h.1 c1
      exact j_return E ⟨rfl, rfl, h⟩ (Nat.zero_le _) (Nat.zero_le _) dX4_shareInto_29
    · have h := h.2 c1
      refine j_iload_n E dX4_shareInto_8 3 rfl ?_
      refine j_aload_n E dX4_shareInto_9 2 rfl ?_
      refine j_alen14 E kv2 rfl dX4_shareInto_10 ?_
      refine j_icmp_ge E 29 dX4_shareInto_11 (by decide) (fun c2 => ?_) (fun c2 => ?_)
      · have h := h.1 c2
        exact j_return E ⟨rfl, rfl, h⟩ (Nat.zero_le _) (Nat.zero_le _) dX4_shareInto_29
      · have h := h.2 c2
        refine j_aload_n E dX4_shareInto_14 2 rfl ?_
        refine j_iload_n E dX4_shareInto_15 3 rfl ?_
        refine j_aload_n E dX4_shareInto_16 0 rfl ?_
        refine j_iload_n E dX4_shareInto_17 1 rfl ?_
        refine j_iload_n E dX4_shareInto_18 3 rfl ?_
        refine j_callV E [.int v1, .int v3] [.int v3, .ref v2] (c_X4_shareOf (gL G) (gD G) (gY G) v0 v1 v3 Z I L _ hZ kv0 h) (gwV W_223 W_224 W_225 W_160 W_222) rfl ⟨rfl, fy_X4_shareOf⟩ ⟨by decide, by decide⟩ (c := 4) rfl (by decide) kv0 rfl rfl (Nat.le_of_ble_eq_true rfl) ⟨Nat.zero_le _, Nat.zero_le _⟩ dX4_shareInto_19 (fun v3 Z4 I5 L6 q7 => ?_)
        obtain ⟨rfl, r9, rfl, h⟩ := q7
        show jJ G 4 22 [(0, .ref v0), (1, .int v1), (2, .ref v2), (3, .int v3)] [.int r9, .int v3, .ref v2] Z I5 L6 0 0
        obtain ⟨o10, h⟩ := h
        refine j_iast E kv2 o10 dX4_shareInto_22 ?_
        refine j_nmI (fun I11 eI11 => ?_)
        have h := h I11 eI11
        obtain ⟨x12, ex12⟩ : ∃ y : Int32, y = v3 + 1 := ⟨_, rfl⟩
        have h := h x12 ex12
        refine j_iinc E x12 [(3, .int x12), (0, .ref v0), (1, .int v1), (2, .ref v2)] dX4_shareInto_23 3 rfl (by rw [ex12]; rfl) (by decide) rfl ?_
        refine j_goto E 2 dX4_shareInto_26 (by decide) ?_
        refine j_sub [1, 2, 3, 0] rfl ?_
        exact hK2 v0 v1 v2 x12 I11 L6 kv0 kv2 h
set_option maxRecDepth 100000 in
def f_X4_shareInto (v0 : Nat) (v1 : Int32) (v2 : Nat) (Z : jZ) (I : jI) (L : jL) (Q : jI → jL → Prop) : Prop := (∃ m2 : Nat, f_X4_shareInto_L2  Z Q m2 v0 v1 v2 (0 : Int32) I L)
set_option maxHeartbeats 4000000 in
set_option maxRecDepth 100000 in
theorem c_X4_shareInto (l : Launch) (D : va_G) (cy : jC) (v0 : Nat) (v1 : Int32) (v2 : Nat) (Z : jZ) (I : jI) (L : jL) (Q : jI → jL → Prop) (hZ : SH Z) (kv0 : jk Z v0 4) (kv2 : jk Z v2 14) (h : f_X4_shareInto v0 v1 v2 Z I L Q) : jCt l yX4_shareInto w_X4_shareInto { frames := 2, cells := 0, slots := 0, locals := 42 } D cy [.ref v0, .int v1, .ref v2] Z I L (rtV Z Q) := by
  refine jCt_of (cc := cX4_shareInto) (maxL := 4) (ret := none) (by decide +kernel) rfl (Nat.le_of_ble_eq_true rfl) ?_
  intro G eD eY eL E
  subst eD; subst eY; subst eL
  have E : jE G cX4_shareInto RX4 w_X4_shareInto 4 none { frames := 2, cells := 0, slots := 0, locals := 42 } (rtV Z Q) := E
  show jJ G 4 0 [(0, .ref v0), (1, .int v1), (2, .ref v2)] [] Z I L 0 0
  refine j_iconst E (v := 0) dX4_shareInto_0 (by decide) ?_
  refine j_istore_n E 3 [(3, .int (0 : Int32)), (0, .ref v0), (1, .int v1), (2, .ref v2)] dX4_shareInto_1 rfl (by decide) rfl ?_
  obtain ⟨n13, h⟩ := h
  refine j_sub [1, 2, 3, 0] rfl ?_
  exact m_X4_shareInto_L2 E hZ  n13 v0 v1 v2 (0 : Int32) I L kv0 kv2 h
set_option maxRecDepth 100000 in
def f_X4_sumInto_L2  (Z : jZ) (Q : jI → jL → Prop) : Nat → Nat → Nat → Int32 → jI → jL → Prop
  | 0 => fun _ _ _ _ _ => False
  | n + 1 => fun v0 v1 v2 I L => (((8 : Int32) ≤ v2 → Q I L) ∧ (¬ ((8 : Int32) ≤ v2) → (((nI (jlen Z v1)) ≤ v2 → Q I L) ∧ (¬ ((nI (jlen Z v1)) ≤ v2) → (f_X4_sumOf v0 v2 Z I L (fun r9 I5 L6 => (vp_in v2 (jlen Z v1) ∧ (∀ I11 : jI, I11 = jpI I5 v1 v2.toNatClampNeg r9 → (∀ x12 : Int32, x12 = v2 + 1 → (f_X4_sumInto_L2 Z Q n) v0 v1 x12 I11 L6)))))))))
set_option maxHeartbeats 4000000 in
set_option maxRecDepth 100000 in
theorem m_X4_sumInto_L2 {G : jG} {Z : jZ} {Q : jI → jL → Prop} (E : jE G cX4_sumInto RX4 w_X4_sumInto 3 none { frames := 3, cells := 0, slots := 0, locals := 65 } (rtV Z Q)) (hZ : SH Z)  : ∀ (n : Nat) (v0 : Nat) (v1 : Nat) (v2 : Int32) (I : jI) (L : jL), jk Z v0 4 → jk Z v1 14 → f_X4_sumInto_L2  Z Q n v0 v1 v2 I L → jJ G 3 2 [(0, .ref v0), (1, .ref v1), (2, .int v2)] [] Z I L 0 0 := by
  intro n
  induction n with
  | zero => intro v0 v1 v2 I L _ _ h; exact h.elim
  | succ n ih =>
    intro v0 v1 v2 I L kv0 kv1 h
    have h : (((8 : Int32) ≤ v2 → Q I L) ∧ (¬ ((8 : Int32) ≤ v2) → (((nI (jlen Z v1)) ≤ v2 → Q I L) ∧ (¬ ((nI (jlen Z v1)) ≤ v2) → (f_X4_sumOf v0 v2 Z I L (fun r9 I5 L6 => (vp_in v2 (jlen Z v1) ∧ (∀ I11 : jI, I11 = jpI I5 v1 v2.toNatClampNeg r9 → (∀ x12 : Int32, x12 = v2 + 1 → (f_X4_sumInto_L2 Z Q n) v0 v1 x12 I11 L6))))))))) := h
    obtain ⟨K2, eK2⟩ : ∃ K : Nat → Nat → Int32 → jI → jL → Prop, K = f_X4_sumInto_L2  Z Q n := ⟨_, rfl⟩
    have hK2 := ih
    clear eK2 K2
    generalize f_X4_sumInto_L2  Z Q n = K2 at hK2 h
    refine j_iload_n E dX4_sumInto_2 2 rfl ?_
    refine j_bipush E (v := 8) dX4_sumInto_3 (by decide) ?_
    refine j_icmp_ge E 28 dX4_sumInto_5 (by decide) (fun c1 => ?_) (fun c1 => ?_)
    · have h := h.1 c1
      exact j_return E ⟨rfl, rfl, h⟩ (Nat.zero_le _) (Nat.zero_le _) dX4_sumInto_28
    · have h := h.2 c1
      refine j_iload_n E dX4_sumInto_8 2 rfl ?_
      refine j_aload_n E dX4_sumInto_9 1 rfl ?_
      refine j_alen14 E kv1 rfl dX4_sumInto_10 ?_
      refine j_icmp_ge E 28 dX4_sumInto_11 (by decide) (fun c2 => ?_) (fun c2 => ?_)
      · have h := h.1 c2
        exact j_return E ⟨rfl, rfl, h⟩ (Nat.zero_le _) (Nat.zero_le _) dX4_sumInto_28
      · have h := h.2 c2
        refine j_aload_n E dX4_sumInto_14 1 rfl ?_
        refine j_iload_n E dX4_sumInto_15 2 rfl ?_
        refine j_aload_n E dX4_sumInto_16 0 rfl ?_
        refine j_iload_n E dX4_sumInto_17 2 rfl ?_
        refine j_callV E [.int v2] [.int v2, .ref v1] (c_X4_sumOf (gL G) (gD G) (gY G) v0 v2 Z I L _ hZ kv0 h) (gwV W_227 W_228 W_229 W_160 W_226) rfl ⟨rfl, fy_X4_sumOf⟩ ⟨by decide, by decide⟩ (c := 4) rfl (by decide) kv0 rfl rfl (Nat.le_of_ble_eq_true rfl) ⟨Nat.zero_le _, Nat.zero_le _⟩ dX4_sumInto_18 (fun v3 Z4 I5 L6 q7 => ?_)
        obtain ⟨rfl, r9, rfl, h⟩ := q7
        show jJ G 3 21 [(0, .ref v0), (1, .ref v1), (2, .int v2)] [.int r9, .int v2, .ref v1] Z I5 L6 0 0
        obtain ⟨o10, h⟩ := h
        refine j_iast E kv1 o10 dX4_sumInto_21 ?_
        refine j_nmI (fun I11 eI11 => ?_)
        have h := h I11 eI11
        obtain ⟨x12, ex12⟩ : ∃ y : Int32, y = v2 + 1 := ⟨_, rfl⟩
        have h := h x12 ex12
        refine j_iinc E x12 [(2, .int x12), (0, .ref v0), (1, .ref v1)] dX4_sumInto_22 2 rfl (by rw [ex12]; rfl) (by decide) rfl ?_
        refine j_goto E 2 dX4_sumInto_25 (by decide) ?_
        refine j_sub [1, 2, 0] rfl ?_
        exact hK2 v0 v1 x12 I11 L6 kv0 kv1 h
set_option maxRecDepth 100000 in
def f_X4_sumInto (v0 : Nat) (v1 : Nat) (Z : jZ) (I : jI) (L : jL) (Q : jI → jL → Prop) : Prop := (∃ m2 : Nat, f_X4_sumInto_L2  Z Q m2 v0 v1 (0 : Int32) I L)
set_option maxHeartbeats 4000000 in
set_option maxRecDepth 100000 in
theorem c_X4_sumInto (l : Launch) (D : va_G) (cy : jC) (v0 : Nat) (v1 : Nat) (Z : jZ) (I : jI) (L : jL) (Q : jI → jL → Prop) (hZ : SH Z) (kv0 : jk Z v0 4) (kv1 : jk Z v1 14) (h : f_X4_sumInto v0 v1 Z I L Q) : jCt l yX4_sumInto w_X4_sumInto { frames := 3, cells := 0, slots := 0, locals := 65 } D cy [.ref v0, .ref v1] Z I L (rtV Z Q) := by
  refine jCt_of (cc := cX4_sumInto) (maxL := 3) (ret := none) (by decide +kernel) rfl (Nat.le_of_ble_eq_true rfl) ?_
  intro G eD eY eL E
  subst eD; subst eY; subst eL
  have E : jE G cX4_sumInto RX4 w_X4_sumInto 3 none { frames := 3, cells := 0, slots := 0, locals := 65 } (rtV Z Q) := E
  show jJ G 3 0 [(0, .ref v0), (1, .ref v1)] [] Z I L 0 0
  refine j_iconst E (v := 0) dX4_sumInto_0 (by decide) ?_
  refine j_istore_n E 2 [(2, .int (0 : Int32)), (0, .ref v0), (1, .ref v1)] dX4_sumInto_1 rfl (by decide) rfl ?_
  obtain ⟨n13, h⟩ := h
  refine j_sub [1, 2, 0] rfl ?_
  exact m_X4_sumInto_L2 E hZ  n13 v0 v1 (0 : Int32) I L kv0 kv1 h
set_option maxRecDepth 100000 in
def f_X4_mainsInto_b42 (K7 : Nat → Nat → Int32 → jI → jL → Prop) (Z : jZ) (Q : jI → jL → Prop) (v0 : Nat) (v1 : Nat) (v2 : Int32) (I : jI) (L : jL) : Prop := (∀ x1 : Int32, x1 = v2 + 1 → K7 v0 v1 x1 I L)
set_option maxHeartbeats 4000000 in
set_option maxRecDepth 100000 in
theorem m_X4_mainsInto_b42 {G : jG} {Z : jZ} {Q : jI → jL → Prop} (E : jE G cX4_mainsInto RX4 w_X4_mainsInto 4 none { frames := 2, cells := 0, slots := 0, locals := 42 } (rtV Z Q)) (hZ : SH Z) (K7 : Nat → Nat → Int32 → jI → jL → Prop) (hK7 : ∀ (v0 : Nat) (v1 : Nat) (v2 : Int32) (I : jI) (L : jL), jk Z v0 4 → jk Z v1 14 → K7 v0 v1 v2 I L → jJ G 4 7 [(0, .ref v0), (1, .ref v1), (2, .int v2)] [] Z I L 0 0) (v0 : Nat) (v1 : Nat) (v2 : Int32) (I : jI) (L : jL) (kv0 : jk Z v0 4) (kv1 : jk Z v1 14) (h : f_X4_mainsInto_b42 K7 Z Q v0 v1 v2 I L) : jJ G 4 42 [(0, .ref v0), (1, .ref v1), (2, .int v2)] [] Z I L 0 0 := by
  obtain ⟨x1, ex1⟩ : ∃ y : Int32, y = v2 + 1 := ⟨_, rfl⟩
  have h := h x1 ex1
  refine j_iinc E x1 [(2, .int x1), (0, .ref v0), (1, .ref v1)] dX4_mainsInto_42 2 rfl (by rw [ex1]; rfl) (by decide) rfl ?_
  refine j_goto E 7 dX4_mainsInto_45 (by decide) ?_
  refine j_sub [1, 2, 0] rfl ?_
  exact hK7 v0 v1 x1 I L kv0 kv1 h
set_option maxRecDepth 100000 in
def f_X4_mainsInto_L7  (Z : jZ) (Q : jI → jL → Prop) : Nat → Nat → Nat → Int32 → jI → jL → Prop
  | 0 => fun _ _ _ _ _ => False
  | n + 1 => fun v0 v1 v2 I L => (((24 : Int32) ≤ v2 → Q I L) ∧ (¬ ((24 : Int32) ≤ v2) → (∀ b3 : Nat, jr Z v0 1 = some b3 → (vp_in v2 24 ∧ (∀ x5 : Int32, x5 = (I b3 v2.toNatClampNeg) → (((nI (jlen Z v1)) ≤ x5 → f_X4_mainsInto_b42 (f_X4_mainsInto_L7 Z Q n) Z Q v0 v1 v2 I L) ∧ (¬ ((nI (jlen Z v1)) ≤ x5) → (f_X4_shareOf v0 v2 x5 Z I L (fun r13 I9 L10 => ((r13 ≤ 0 → f_X4_mainsInto_b42 (f_X4_mainsInto_L7 Z Q n) Z Q v0 v1 v2 I9 L10) ∧ (¬ (r13 ≤ 0) → (vp_in x5 (jlen Z v1) ∧ (vp_in x5 (jlen Z v1) ∧ (∀ I17 : jI, I17 = jpI I9 v1 x5.toNatClampNeg ((I9 v1 x5.toNatClampNeg) + (1 : Int32)) → f_X4_mainsInto_b42 (f_X4_mainsInto_L7 Z Q n) Z Q v0 v1 v2 I17 L10))))))))))))))
set_option maxHeartbeats 4000000 in
set_option maxRecDepth 100000 in
theorem m_X4_mainsInto_L7 {G : jG} {Z : jZ} {Q : jI → jL → Prop} (E : jE G cX4_mainsInto RX4 w_X4_mainsInto 4 none { frames := 2, cells := 0, slots := 0, locals := 42 } (rtV Z Q)) (hZ : SH Z)  : ∀ (n : Nat) (v0 : Nat) (v1 : Nat) (v2 : Int32) (I : jI) (L : jL), jk Z v0 4 → jk Z v1 14 → f_X4_mainsInto_L7  Z Q n v0 v1 v2 I L → jJ G 4 7 [(0, .ref v0), (1, .ref v1), (2, .int v2)] [] Z I L 0 0 := by
  intro n
  induction n with
  | zero => intro v0 v1 v2 I L _ _ h; exact h.elim
  | succ n ih =>
    intro v0 v1 v2 I L kv0 kv1 h
    have h : (((24 : Int32) ≤ v2 → Q I L) ∧ (¬ ((24 : Int32) ≤ v2) → (∀ b3 : Nat, jr Z v0 1 = some b3 → (vp_in v2 24 ∧ (∀ x5 : Int32, x5 = (I b3 v2.toNatClampNeg) → (((nI (jlen Z v1)) ≤ x5 → f_X4_mainsInto_b42 (f_X4_mainsInto_L7 Z Q n) Z Q v0 v1 v2 I L) ∧ (¬ ((nI (jlen Z v1)) ≤ x5) → (f_X4_shareOf v0 v2 x5 Z I L (fun r13 I9 L10 => ((r13 ≤ 0 → f_X4_mainsInto_b42 (f_X4_mainsInto_L7 Z Q n) Z Q v0 v1 v2 I9 L10) ∧ (¬ (r13 ≤ 0) → (vp_in x5 (jlen Z v1) ∧ (vp_in x5 (jlen Z v1) ∧ (∀ I17 : jI, I17 = jpI I9 v1 x5.toNatClampNeg ((I9 v1 x5.toNatClampNeg) + (1 : Int32)) → f_X4_mainsInto_b42 (f_X4_mainsInto_L7 Z Q n) Z Q v0 v1 v2 I17 L10)))))))))))))) := h
    obtain ⟨K7, eK7⟩ : ∃ K : Nat → Nat → Int32 → jI → jL → Prop, K = f_X4_mainsInto_L7  Z Q n := ⟨_, rfl⟩
    have hK7 := ih
    clear eK7 K7
    generalize f_X4_mainsInto_L7  Z Q n = K7 at hK7 h
    refine j_iload_n E dX4_mainsInto_7 2 rfl ?_
    refine j_bipush E (v := 24) dX4_mainsInto_8 (by decide) ?_
    refine j_icmp_ge E 48 dX4_mainsInto_10 (by decide) (fun c2 => ?_) (fun c2 => ?_)
    · have h := h.1 c2
      exact j_return E ⟨rfl, rfl, h⟩ (Nat.zero_le _) (Nat.zero_le _) dX4_mainsInto_48
    · have h := h.2 c2
      refine j_aload_n E dX4_mainsInto_13 0 rfl ?_
      obtain ⟨b3, eb3, kb3, lb3⟩ := sh_f hZ kv0 (j := 1) (k := 14) (m := 24) rfl
      have h := h b3 eb3
      refine j_getr E 4 1 rfl rfl (by decide) (by decide) (iw iT_4) rfl rfl (tw W_157) kv0 eb3 dX4_mainsInto_14 ?_
      refine j_iload_n E dX4_mainsInto_17 2 rfl ?_
      obtain ⟨o4, h⟩ := h
      refine j_iald E kb3 (by rw [lb3]; exact o4) dX4_mainsInto_18 ?_
      refine j_topi (fun x5 ex5 => ?_)
      have h := h x5 ex5
      refine j_istore_n E 3 [(3, .int x5), (0, .ref v0), (1, .ref v1), (2, .int v2)] dX4_mainsInto_19 rfl (by decide) rfl ?_
      refine j_iload_n E dX4_mainsInto_20 0 rfl ?_
      refine j_aload_n E dX4_mainsInto_21 2 rfl ?_
      refine j_alen14 E kv1 rfl dX4_mainsInto_22 ?_
      refine j_icmp_ge E 42 dX4_mainsInto_23 (by decide) (fun c6 => ?_) (fun c6 => ?_)
      · have h := h.1 c6
        refine j_sub [1, 2, 3] rfl ?_
        exact m_X4_mainsInto_b42 E hZ K7 hK7 v0 v1 v2 I L kv0 kv1 h
      · have h := h.2 c6
        refine j_aload_n E dX4_mainsInto_26 1 rfl ?_
        refine j_iload_n E dX4_mainsInto_27 3 rfl ?_
        refine j_iload_n E dX4_mainsInto_28 0 rfl ?_
        refine j_callV E [.int v2, .int x5] [] (c_X4_shareOf (gL G) (gD G) (gY G) v0 v2 x5 Z I L _ hZ kv0 h) (gwV W_223 W_224 W_225 W_160 W_222) rfl ⟨rfl, fy_X4_shareOf⟩ ⟨by decide, by decide⟩ (c := 4) rfl (by decide) kv0 rfl rfl (Nat.le_of_ble_eq_true rfl) ⟨Nat.zero_le _, Nat.zero_le _⟩ dX4_mainsInto_29 (fun v7 Z8 I9 L10 q11 => ?_)
        obtain ⟨rfl, r13, rfl, h⟩ := q11
        show jJ G 4 32 [(3, .int x5), (0, .ref v0), (1, .ref v1), (2, .int v2)] [.int r13] Z I9 L10 0 0
        refine j_if_le E 42 dX4_mainsInto_32 (by decide) (fun c14 => ?_) (fun c14 => ?_)
        · have h := h.1 c14
          refine j_sub [1, 2, 3] rfl ?_
          exact m_X4_mainsInto_b42 E hZ K7 hK7 v0 v1 v2 I9 L10 kv0 kv1 h
        · have h := h.2 c14
          refine j_aload_n E dX4_mainsInto_35 2 rfl ?_
          refine j_iload_n E dX4_mainsInto_36 0 rfl ?_
          refine j_dup2_11 E dX4_mainsInto_37 rfl rfl ?_
          obtain ⟨o15, h⟩ := h
          refine j_iald E kv1 o15 dX4_mainsInto_38 ?_
          refine j_iconst E (v := 1) dX4_mainsInto_39 (by decide) ?_
          refine j_iadd E dX4_mainsInto_40 ?_
          obtain ⟨o16, h⟩ := h
          refine j_iast E kv1 o16 dX4_mainsInto_41 ?_
          refine j_nmI (fun I17 eI17 => ?_)
          have h := h I17 eI17
          refine j_sub [1, 2, 3] rfl ?_
          exact m_X4_mainsInto_b42 E hZ K7 hK7 v0 v1 v2 I17 L10 kv0 kv1 h
set_option maxRecDepth 100000 in
def f_X4_mainsInto (v0 : Nat) (v1 : Nat) (Z : jZ) (I : jI) (L : jL) (Q : jI → jL → Prop) : Prop := (f_J7_fill_53178 v1 (0 : Int32) Z I L (fun I20 L21 => (∃ m7 : Nat, f_X4_mainsInto_L7  Z Q m7 v0 v1 (0 : Int32) I20 L21)))
set_option maxHeartbeats 4000000 in
set_option maxRecDepth 100000 in
theorem c_X4_mainsInto (l : Launch) (D : va_G) (cy : jC) (v0 : Nat) (v1 : Nat) (Z : jZ) (I : jI) (L : jL) (Q : jI → jL → Prop) (hZ : SH Z) (kv0 : jk Z v0 4) (kv1 : jk Z v1 14) (h : f_X4_mainsInto v0 v1 Z I L Q) : jCt l yX4_mainsInto w_X4_mainsInto { frames := 2, cells := 0, slots := 0, locals := 42 } D cy [.ref v0, .ref v1] Z I L (rtV Z Q) := by
  refine jCt_of (cc := cX4_mainsInto) (maxL := 4) (ret := none) (by decide +kernel) rfl (Nat.le_of_ble_eq_true rfl) ?_
  intro G eD eY eL E
  subst eD; subst eY; subst eL
  have E : jE G cX4_mainsInto RX4 w_X4_mainsInto 4 none { frames := 2, cells := 0, slots := 0, locals := 42 } (rtV Z Q) := E
  show jJ G 4 0 [(0, .ref v0), (1, .ref v1)] [] Z I L 0 0
  refine j_aload_n E dX4_mainsInto_0 1 rfl ?_
  refine j_iconst E (v := 0) dX4_mainsInto_1 (by decide) ?_
  refine j_callS E [.ref v1, .int (0 : Int32)] [] (c_J7_fill_53178 (gL G) (gD G) (gY G) v1 (0 : Int32) Z I L _ hZ kv1 h) (gwS W_221 W_22 W_17 W_20) rfl fy_J7_fill_53178 ⟨by decide, by decide⟩ rfl rfl (Nat.le_of_ble_eq_true rfl) ⟨Nat.zero_le _, Nat.zero_le _⟩ dX4_mainsInto_2 (fun v18 Z19 I20 L21 q22 => ?_)
  obtain ⟨rfl, rfl, h⟩ := q22
  show jJ G 4 5 [(0, .ref v0), (1, .ref v1)] [] Z I20 L21 0 0
  refine j_iconst E (v := 0) dX4_mainsInto_5 (by decide) ?_
  refine j_istore_n E 2 [(2, .int (0 : Int32)), (0, .ref v0), (1, .ref v1)] dX4_mainsInto_6 rfl (by decide) rfl ?_
  obtain ⟨n24, h⟩ := h
  refine j_sub [1, 2, 0] rfl ?_
  exact m_X4_mainsInto_L7 E hZ  n24 v0 v1 (0 : Int32) I20 L21 kv0 kv1 h
set_option maxRecDepth 100000 in
def f_X4_remember_b32  (Z : jZ) (Q : jI → jL → Prop) (v0 : Nat) (I : jI) (L : jL) : Prop := (∀ x1 : Int32, x1 = (((I v0 3) + (I v0 4)) - ((I v0 3) + (I v0 4)) / (8 : Int32) * (8 : Int32)) → (∀ b2 : Nat, jr Z v0 0 = some b2 → (∀ b3 : Nat, jr Z v0 2 = some b3 → ((¬ (0 : Int32) < 0 ∧ ¬ (x1 * (192 : Int32)) < 0 ∧ ¬ (192 : Int32) < 0 ∧ (0 : Int32).toNatClampNeg + (192 : Int32).toNatClampNeg ≤ 192 ∧ (x1 * (192 : Int32)).toNatClampNeg + (192 : Int32).toNatClampNeg ≤ 1536) ∧ (∀ I5 : jI, I5 = va_up I b3 (va_cpy (I b2) (I b3) (0 : Int32).toNatClampNeg (x1 * (192 : Int32)).toNatClampNeg (192 : Int32).toNatClampNeg) → (∀ I6 : jI, I6 = jpI I5 v0 4 ((I5 v0 4) + (1 : Int32)) → Q I6 L))))))
set_option maxHeartbeats 4000000 in
set_option maxRecDepth 100000 in
theorem m_X4_remember_b32 {G : jG} {Z : jZ} {Q : jI → jL → Prop} (E : jE G cX4_remember RX4 w_X4_remember 2 none { frames := 1, cells := 0, slots := 0, locals := 48 } (rtV Z Q)) (hZ : SH Z)  (v0 : Nat) (I : jI) (L : jL) (kv0 : jk Z v0 4) (h : f_X4_remember_b32  Z Q v0 I L) : jJ G 2 32 [(0, .ref v0)] [] Z I L 0 0 := by
  refine j_aload_n E dX4_remember_32 0 rfl ?_
  refine j_geti E 4 3 rfl rfl (by decide) (by decide) (iw iT_4) rfl rfl (tw W_230) kv0 dX4_remember_33 ?_
  refine j_aload_n E dX4_remember_36 0 rfl ?_
  refine j_geti E 4 4 rfl rfl (by decide) (by decide) (iw iT_4) rfl rfl (tw W_165) kv0 dX4_remember_37 ?_
  refine j_iadd E dX4_remember_40 ?_
  refine j_bipush E (v := 8) dX4_remember_41 (by decide) ?_
  refine j_irem E dX4_remember_43 (by decide) ?_
  refine j_topi (fun x1 ex1 => ?_)
  have h := h x1 ex1
  refine j_istore_n E 1 [(1, .int x1), (0, .ref v0)] dX4_remember_44 rfl (by decide) rfl ?_
  refine j_aload_n E dX4_remember_45 1 rfl ?_
  obtain ⟨b2, eb2, kb2, lb2⟩ := sh_f hZ kv0 (j := 0) (k := 14) (m := 192) rfl
  have h := h b2 eb2
  refine j_getr E 4 0 rfl rfl (by decide) (by decide) (iw iT_4) rfl rfl (tw W_158) kv0 eb2 dX4_remember_46 ?_
  refine j_iconst E (v := 0) dX4_remember_49 (by decide) ?_
  refine j_aload_n E dX4_remember_50 1 rfl ?_
  obtain ⟨b3, eb3, kb3, lb3⟩ := sh_f hZ kv0 (j := 2) (k := 14) (m := 1536) rfl
  have h := h b3 eb3
  refine j_getr E 4 2 rfl rfl (by decide) (by decide) (iw iT_4) rfl rfl (tw W_231) kv0 eb3 dX4_remember_51 ?_
  refine j_iload_n E dX4_remember_54 0 rfl ?_
  refine j_sipush E (v := 192) dX4_remember_55 (by decide) ?_
  refine j_imul E dX4_remember_58 ?_
  refine j_sipush E (v := 192) dX4_remember_59 (by decide) ?_
  obtain ⟨o4, h⟩ := h
  refine j_copyi E (tw W_164) (tw W_11) (tw W_12) (tw W_13) kb2 kb3 o4.1 o4.2.1 o4.2.2.1 (by rw [lb2]; exact o4.2.2.2.1) (by rw [lb3]; exact o4.2.2.2.2) (Nat.le_of_ble_eq_true rfl) (Nat.le_of_ble_eq_true rfl) dX4_remember_62 ?_
  refine j_nmI (fun I5 eI5 => ?_)
  have h := h I5 eI5
  refine j_aload_n E dX4_remember_65 1 rfl ?_
  refine j_dup E dX4_remember_66 rfl ?_
  refine j_geti E 4 4 rfl rfl (by decide) (by decide) (iw iT_4) rfl rfl (tw W_165) kv0 dX4_remember_67 ?_
  refine j_iconst E (v := 1) dX4_remember_70 (by decide) ?_
  refine j_iadd E dX4_remember_71 ?_
  refine j_puti E 4 4 rfl rfl (by decide) (by decide) (iw iT_4) tyX4_ok nmX4 rfl rfl (tw W_165) rfl rfl rfl kv0 dX4_remember_72 ?_
  refine j_nmI (fun I6 eI6 => ?_)
  have h := h I6 eI6
  exact j_return E ⟨rfl, rfl, h⟩ (Nat.zero_le _) (Nat.zero_le _) dX4_remember_75
set_option maxRecDepth 100000 in
def f_X4_remember (v0 : Nat) (Z : jZ) (I : jI) (L : jL) (Q : jI → jL → Prop) : Prop := ((¬ (I v0 4) = (8 : Int32) → f_X4_remember_b32  Z Q v0 I L) ∧ ((I v0 4) = (8 : Int32) → (∀ I8 : jI, I8 = jpI I v0 3 (((I v0 3) + (1 : Int32)) - ((I v0 3) + (1 : Int32)) / (8 : Int32) * (8 : Int32)) → (∀ I9 : jI, I9 = jpI I8 v0 4 ((I8 v0 4) - (1 : Int32)) → f_X4_remember_b32  Z Q v0 I9 L))))
set_option maxHeartbeats 4000000 in
set_option maxRecDepth 100000 in
theorem c_X4_remember (l : Launch) (D : va_G) (cy : jC) (v0 : Nat) (Z : jZ) (I : jI) (L : jL) (Q : jI → jL → Prop) (hZ : SH Z) (kv0 : jk Z v0 4) (h : f_X4_remember v0 Z I L Q) : jCt l yX4_remember w_X4_remember { frames := 1, cells := 0, slots := 0, locals := 48 } D cy [.ref v0] Z I L (rtV Z Q) := by
  refine jCt_of (cc := cX4_remember) (maxL := 2) (ret := none) (by decide +kernel) rfl (Nat.le_of_ble_eq_true rfl) ?_
  intro G eD eY eL E
  subst eD; subst eY; subst eL
  have E : jE G cX4_remember RX4 w_X4_remember 2 none { frames := 1, cells := 0, slots := 0, locals := 48 } (rtV Z Q) := E
  show jJ G 2 0 [(0, .ref v0)] [] Z I L 0 0
  refine j_aload_n E dX4_remember_0 0 rfl ?_
  refine j_geti E 4 4 rfl rfl (by decide) (by decide) (iw iT_4) rfl rfl (tw W_165) kv0 dX4_remember_1 ?_
  refine j_bipush E (v := 8) dX4_remember_4 (by decide) ?_
  refine j_icmp_ne E 32 dX4_remember_6 (by decide) (fun c7 => ?_) (fun c7 => ?_)
  · have h := h.1 c7
    refine j_sub [0] rfl ?_
    exact m_X4_remember_b32 E hZ  v0 I L kv0 h
  · have h := h.2 c7
    refine j_aload_n E dX4_remember_9 0 rfl ?_
    refine j_aload_n E dX4_remember_10 0 rfl ?_
    refine j_geti E 4 3 rfl rfl (by decide) (by decide) (iw iT_4) rfl rfl (tw W_230) kv0 dX4_remember_11 ?_
    refine j_iconst E (v := 1) dX4_remember_14 (by decide) ?_
    refine j_iadd E dX4_remember_15 ?_
    refine j_bipush E (v := 8) dX4_remember_16 (by decide) ?_
    refine j_irem E dX4_remember_18 (by decide) ?_
    refine j_puti E 4 3 rfl rfl (by decide) (by decide) (iw iT_4) tyX4_ok nmX4 rfl rfl (tw W_230) rfl rfl rfl kv0 dX4_remember_19 ?_
    refine j_nmI (fun I8 eI8 => ?_)
    have h := h I8 eI8
    refine j_aload_n E dX4_remember_22 0 rfl ?_
    refine j_dup E dX4_remember_23 rfl ?_
    refine j_geti E 4 4 rfl rfl (by decide) (by decide) (iw iT_4) rfl rfl (tw W_165) kv0 dX4_remember_24 ?_
    refine j_iconst E (v := 1) dX4_remember_27 (by decide) ?_
    refine j_isub E dX4_remember_28 ?_
    refine j_puti E 4 4 rfl rfl (by decide) (by decide) (iw iT_4) tyX4_ok nmX4 rfl rfl (tw W_165) rfl rfl rfl kv0 dX4_remember_29 ?_
    refine j_nmI (fun I9 eI9 => ?_)
    have h := h I9 eI9
    refine j_sub [0] rfl ?_
    exact m_X4_remember_b32 E hZ  v0 I9 L kv0 h
set_option maxRecDepth 100000 in
def f_X4_takeBack (v0 : Nat) (Z : jZ) (I : jI) (L : jL) (Q : Int32 → jI → jL → Prop) : Prop := ((¬ (I v0 4) = 0 → (∀ I2 : jI, I2 = jpI I v0 4 ((I v0 4) - (1 : Int32)) → (∀ x3 : Int32, x3 = (((I2 v0 3) + (I2 v0 4)) - ((I2 v0 3) + (I2 v0 4)) / (8 : Int32) * (8 : Int32)) → (∀ b4 : Nat, jr Z v0 2 = some b4 → (∀ b5 : Nat, jr Z v0 0 = some b5 → ((¬ (x3 * (192 : Int32)) < 0 ∧ ¬ (0 : Int32) < 0 ∧ ¬ (192 : Int32) < 0 ∧ (x3 * (192 : Int32)).toNatClampNeg + (192 : Int32).toNatClampNeg ≤ 1536 ∧ (0 : Int32).toNatClampNeg + (192 : Int32).toNatClampNeg ≤ 192) ∧ (∀ I7 : jI, I7 = va_up I2 b5 (va_cpy (I2 b4) (I2 b5) (x3 * (192 : Int32)).toNatClampNeg (0 : Int32).toNatClampNeg (192 : Int32).toNatClampNeg) → (f_X4_findMains v0 Z I7 L (fun I10 L11 => Q (1 : Int32) I10 L11))))))))) ∧ ((I v0 4) = 0 → Q (0 : Int32) I L))
set_option maxHeartbeats 4000000 in
set_option maxRecDepth 100000 in
theorem c_X4_takeBack (l : Launch) (D : va_G) (cy : jC) (v0 : Nat) (Z : jZ) (I : jI) (L : jL) (Q : Int32 → jI → jL → Prop) (hZ : SH Z) (kv0 : jk Z v0 4) (h : f_X4_takeBack v0 Z I L Q) : jCt l yX4_takeBack w_X4_takeBack { frames := 2, cells := 0, slots := 0, locals := 48 } D cy [.ref v0] Z I L (rtZ Z Q) := by
  refine jCt_of (cc := cX4_takeBack) (maxL := 2) (ret := (some .boolean)) (by decide +kernel) rfl (Nat.le_of_ble_eq_true rfl) ?_
  intro G eD eY eL E
  subst eD; subst eY; subst eL
  have E : jE G cX4_takeBack RX4 w_X4_takeBack 2 (some .boolean) { frames := 2, cells := 0, slots := 0, locals := 48 } (rtZ Z Q) := E
  show jJ G 2 0 [(0, .ref v0)] [] Z I L 0 0
  refine j_aload_n E dX4_takeBack_0 0 rfl ?_
  refine j_geti E 4 4 rfl rfl (by decide) (by decide) (iw iT_4) rfl rfl (tw W_165) kv0 dX4_takeBack_1 ?_
  refine j_if_ne E 9 dX4_takeBack_4 (by decide) (fun c1 => ?_) (fun c1 => ?_)
  · have h := h.1 c1
    refine j_aload_n E dX4_takeBack_9 0 rfl ?_
    refine j_dup E dX4_takeBack_10 rfl ?_
    refine j_geti E 4 4 rfl rfl (by decide) (by decide) (iw iT_4) rfl rfl (tw W_165) kv0 dX4_takeBack_11 ?_
    refine j_iconst E (v := 1) dX4_takeBack_14 (by decide) ?_
    refine j_isub E dX4_takeBack_15 ?_
    refine j_puti E 4 4 rfl rfl (by decide) (by decide) (iw iT_4) tyX4_ok nmX4 rfl rfl (tw W_165) rfl rfl rfl kv0 dX4_takeBack_16 ?_
    refine j_nmI (fun I2 eI2 => ?_)
    have h := h I2 eI2
    refine j_aload_n E dX4_takeBack_19 0 rfl ?_
    refine j_geti E 4 3 rfl rfl (by decide) (by decide) (iw iT_4) rfl rfl (tw W_230) kv0 dX4_takeBack_20 ?_
    refine j_aload_n E dX4_takeBack_23 0 rfl ?_
    refine j_geti E 4 4 rfl rfl (by decide) (by decide) (iw iT_4) rfl rfl (tw W_165) kv0 dX4_takeBack_24 ?_
    refine j_iadd E dX4_takeBack_27 ?_
    refine j_bipush E (v := 8) dX4_takeBack_28 (by decide) ?_
    refine j_irem E dX4_takeBack_30 (by decide) ?_
    refine j_topi (fun x3 ex3 => ?_)
    have h := h x3 ex3
    refine j_istore_n E 1 [(1, .int x3), (0, .ref v0)] dX4_takeBack_31 rfl (by decide) rfl ?_
    refine j_aload_n E dX4_takeBack_32 1 rfl ?_
    obtain ⟨b4, eb4, kb4, lb4⟩ := sh_f hZ kv0 (j := 2) (k := 14) (m := 1536) rfl
    have h := h b4 eb4
    refine j_getr E 4 2 rfl rfl (by decide) (by decide) (iw iT_4) rfl rfl (tw W_231) kv0 eb4 dX4_takeBack_33 ?_
    refine j_iload_n E dX4_takeBack_36 0 rfl ?_
    refine j_sipush E (v := 192) dX4_takeBack_37 (by decide) ?_
    refine j_imul E dX4_takeBack_40 ?_
    refine j_aload_n E dX4_takeBack_41 1 rfl ?_
    obtain ⟨b5, eb5, kb5, lb5⟩ := sh_f hZ kv0 (j := 0) (k := 14) (m := 192) rfl
    have h := h b5 eb5
    refine j_getr E 4 0 rfl rfl (by decide) (by decide) (iw iT_4) rfl rfl (tw W_158) kv0 eb5 dX4_takeBack_42 ?_
    refine j_iconst E (v := 0) dX4_takeBack_45 (by decide) ?_
    refine j_sipush E (v := 192) dX4_takeBack_46 (by decide) ?_
    obtain ⟨o6, h⟩ := h
    refine j_copyi E (tw W_164) (tw W_11) (tw W_12) (tw W_13) kb4 kb5 o6.1 o6.2.1 o6.2.2.1 (by rw [lb4]; exact o6.2.2.2.1) (by rw [lb5]; exact o6.2.2.2.2) (Nat.le_of_ble_eq_true rfl) (Nat.le_of_ble_eq_true rfl) dX4_takeBack_49 ?_
    refine j_nmI (fun I7 eI7 => ?_)
    have h := h I7 eI7
    refine j_aload_n E dX4_takeBack_52 1 rfl ?_
    refine j_callV E [] [] (c_X4_findMains (gL G) (gD G) (gY G) v0 Z I7 L _ hZ kv0 h) (gwV W_167 W_168 W_169 W_160 W_166) rfl ⟨rfl, fy_X4_findMains⟩ ⟨by decide, by decide⟩ (c := 4) rfl (by decide) kv0 rfl rfl (Nat.le_of_ble_eq_true rfl) ⟨Nat.zero_le _, Nat.zero_le _⟩ dX4_takeBack_53 (fun v8 Z9 I10 L11 q12 => ?_)
    obtain ⟨rfl, rfl, h⟩ := q12
    show jJ G 2 56 [(1, .int x3), (0, .ref v0)] [] Z I10 L11 0 0
    refine j_iconst E (v := 1) dX4_takeBack_56 (by decide) ?_
    exact j_zreturn E (Or.inr rfl) ⟨rfl, _, rfl, (Or.inr rfl), h⟩ (Nat.zero_le _) (Nat.zero_le _) dX4_takeBack_57
  · have h := h.2 c1
    refine j_iconst E (v := 0) dX4_takeBack_7 (by decide) ?_
    exact j_zreturn E (Or.inl rfl) ⟨rfl, _, rfl, (Or.inl rfl), h⟩ (Nat.zero_le _) (Nat.zero_le _) dX4_takeBack_8
set_option maxRecDepth 100000 in
def f_X4_move (v0 : Nat) (v1 : Int32) (v2 : Int32) (v3 : Int32) (v4 : Int32) (Z : jZ) (I : jI) (L : jL) (Q : jI → jL → Prop) : Prop := ((v1 < 0 → Q I L) ∧ (¬ (v1 < 0) → (((24 : Int32) ≤ v1 → Q I L) ∧ (¬ ((24 : Int32) ≤ v1) → (f_X11_isFamily v2 Z I L (fun r9 I5 L6 => ((r9 = 0 → Q I5 L6) ∧ (¬ (r9 = 0) → (f_X11_isFamily v3 Z I5 L6 (fun r17 I13 L14 => ((r17 = 0 → Q I13 L14) ∧ (¬ (r17 = 0) → (∀ b19 : Nat, jr Z v0 0 = some b19 → (vp_in ((v1 * (8 : Int32)) + v2) 192 ∧ (vp_in ((v1 * (8 : Int32)) + v2) 192 ∧ (∀ I22 : jI, I22 = jpI I13 b19 ((v1 * (8 : Int32)) + v2).toNatClampNeg ((I13 b19 ((v1 * (8 : Int32)) + v2).toNatClampNeg) - v4) → (∀ b23 : Nat, jr Z v0 0 = some b23 → (vp_in ((v1 * (8 : Int32)) + v3) 192 ∧ (vp_in ((v1 * (8 : Int32)) + v3) 192 ∧ (∀ I26 : jI, I26 = jpI I22 b23 ((v1 * (8 : Int32)) + v3).toNatClampNeg ((I22 b23 ((v1 * (8 : Int32)) + v3).toNatClampNeg) + v4) → (f_X4_findMain v0 v1 Z I26 L14 (fun I29 L30 => Q I29 L30))))))))))))))))))))))
set_option maxHeartbeats 4000000 in
set_option maxRecDepth 100000 in
theorem c_X4_move (l : Launch) (D : va_G) (cy : jC) (v0 : Nat) (v1 : Int32) (v2 : Int32) (v3 : Int32) (v4 : Int32) (Z : jZ) (I : jI) (L : jL) (Q : jI → jL → Prop) (hZ : SH Z) (kv0 : jk Z v0 4) (h : f_X4_move v0 v1 v2 v3 v4 Z I L Q) : jCt l yX4_move w_X4_move { frames := 1, cells := 0, slots := 0, locals := 23 } D cy [.ref v0, .int v1, .int v2, .int v3, .int v4] Z I L (rtV Z Q) := by
  refine jCt_of (cc := cX4_move) (maxL := 5) (ret := none) (by decide +kernel) rfl (Nat.le_of_ble_eq_true rfl) ?_
  intro G eD eY eL E
  subst eD; subst eY; subst eL
  have E : jE G cX4_move RX4 w_X4_move 5 none { frames := 1, cells := 0, slots := 0, locals := 23 } (rtV Z Q) := E
  show jJ G 5 0 [(0, .ref v0), (1, .int v1), (2, .int v2), (3, .int v3), (4, .int v4)] [] Z I L 0 0
  refine j_iload_n E dX4_move_0 1 rfl ?_
  refine j_if_lt E 61 dX4_move_1 (by decide) (fun c1 => ?_) (fun c1 => ?_)
  · have h := h.1 c1
    exact j_return E ⟨rfl, rfl, h⟩ (Nat.zero_le _) (Nat.zero_le _) dX4_move_61
  · have h := h.2 c1
    refine j_iload_n E dX4_move_4 1 rfl ?_
    refine j_bipush E (v := 24) dX4_move_5 (by decide) ?_
    refine j_icmp_ge E 61 dX4_move_7 (by decide) (fun c2 => ?_) (fun c2 => ?_)
    · have h := h.1 c2
      exact j_return E ⟨rfl, rfl, h⟩ (Nat.zero_le _) (Nat.zero_le _) dX4_move_61
    · have h := h.2 c2
      refine j_iload_n E dX4_move_10 2 rfl ?_
      refine j_callSN E [.int v2] [] (c_X11_isFamily (gL G) (gD G) (gY G) v2 Z I L _ hZ  h) (gwN W_219) rfl (nm_X11_isFamily_X4_34) (tw W_40) (tw W_220) fy_X11_isFamily ⟨by decide, by decide⟩ rfl rfl (Nat.le_of_ble_eq_true rfl) ⟨Nat.zero_le _, Nat.zero_le _⟩ dX4_move_11 (fun v3 Z4 I5 L6 q7 => ?_)
      obtain ⟨rfl, r9, rfl, zr9, h⟩ := q7
      show jJ G 5 14 [(0, .ref v0), (1, .int v1), (2, .int v2), (3, .int v3), (4, .int v4)] [.int r9] Z I5 L6 0 0
      refine j_if_eq E 61 dX4_move_14 (by decide) (fun c10 => ?_) (fun c10 => ?_)
      · have h := h.1 c10
        exact j_return E ⟨rfl, rfl, h⟩ (Nat.zero_le _) (Nat.zero_le _) dX4_move_61
      · have h := h.2 c10
        refine j_iload_n E dX4_move_17 3 rfl ?_
        refine j_callSN E [.int v3] [] (c_X11_isFamily (gL G) (gD G) (gY G) v3 Z I5 L6 _ hZ  h) (gwN W_219) rfl (nm_X11_isFamily_X4_34) (tw W_40) (tw W_220) fy_X11_isFamily ⟨by decide, by decide⟩ rfl rfl (Nat.le_of_ble_eq_true rfl) ⟨Nat.zero_le _, Nat.zero_le _⟩ dX4_move_18 (fun v11 Z12 I13 L14 q15 => ?_)
        obtain ⟨rfl, r17, rfl, zr17, h⟩ := q15
        show jJ G 5 21 [(0, .ref v0), (1, .int v1), (2, .int v2), (3, .int v3), (4, .int v4)] [.int r17] Z I13 L14 0 0
        refine j_if_eq E 61 dX4_move_21 (by decide) (fun c18 => ?_) (fun c18 => ?_)
        · have h := h.1 c18
          exact j_return E ⟨rfl, rfl, h⟩ (Nat.zero_le _) (Nat.zero_le _) dX4_move_61
        · have h := h.2 c18
          refine j_aload_n E dX4_move_24 0 rfl ?_
          obtain ⟨b19, eb19, kb19, lb19⟩ := sh_f hZ kv0 (j := 0) (k := 14) (m := 192) rfl
          have h := h b19 eb19
          refine j_getr E 4 0 rfl rfl (by decide) (by decide) (iw iT_4) rfl rfl (tw W_158) kv0 eb19 dX4_move_25 ?_
          refine j_iload_n E dX4_move_28 1 rfl ?_
          refine j_bipush E (v := 8) dX4_move_29 (by decide) ?_
          refine j_imul E dX4_move_31 ?_
          refine j_iload_n E dX4_move_32 2 rfl ?_
          refine j_iadd E dX4_move_33 ?_
          refine j_dup2_11 E dX4_move_34 rfl rfl ?_
          obtain ⟨o20, h⟩ := h
          refine j_iald E kb19 (by rw [lb19]; exact o20) dX4_move_35 ?_
          refine j_iload E dX4_move_36 4 rfl ?_
          refine j_isub E dX4_move_38 ?_
          obtain ⟨o21, h⟩ := h
          refine j_iast E kb19 (by rw [lb19]; exact o21) dX4_move_39 ?_
          refine j_nmI (fun I22 eI22 => ?_)
          have h := h I22 eI22
          refine j_aload_n E dX4_move_40 0 rfl ?_
          obtain ⟨b23, eb23, kb23, lb23⟩ := sh_f hZ kv0 (j := 0) (k := 14) (m := 192) rfl
          have h := h b23 eb23
          refine j_getr E 4 0 rfl rfl (by decide) (by decide) (iw iT_4) rfl rfl (tw W_158) kv0 eb23 dX4_move_41 ?_
          refine j_iload_n E dX4_move_44 1 rfl ?_
          refine j_bipush E (v := 8) dX4_move_45 (by decide) ?_
          refine j_imul E dX4_move_47 ?_
          refine j_iload_n E dX4_move_48 3 rfl ?_
          refine j_iadd E dX4_move_49 ?_
          refine j_dup2_11 E dX4_move_50 rfl rfl ?_
          obtain ⟨o24, h⟩ := h
          refine j_iald E kb23 (by rw [lb23]; exact o24) dX4_move_51 ?_
          refine j_iload E dX4_move_52 4 rfl ?_
          refine j_iadd E dX4_move_54 ?_
          obtain ⟨o25, h⟩ := h
          refine j_iast E kb23 (by rw [lb23]; exact o25) dX4_move_55 ?_
          refine j_nmI (fun I26 eI26 => ?_)
          have h := h I26 eI26
          refine j_aload_n E dX4_move_56 0 rfl ?_
          refine j_iload_n E dX4_move_57 1 rfl ?_
          refine j_callV E [.int v1] [] (c_X4_findMain (gL G) (gD G) (gY G) v0 v1 Z I26 L14 _ hZ kv0 h) (gwV W_161 W_162 W_163 W_160 W_159) rfl ⟨rfl, fy_X4_findMain⟩ ⟨by decide, by decide⟩ (c := 4) rfl (by decide) kv0 rfl rfl (Nat.le_of_ble_eq_true rfl) ⟨Nat.zero_le _, Nat.zero_le _⟩ dX4_move_58 (fun v27 Z28 I29 L30 q31 => ?_)
          obtain ⟨rfl, rfl, h⟩ := q31
          show jJ G 5 61 [(0, .ref v0), (1, .int v1), (2, .int v2), (3, .int v3), (4, .int v4)] [] Z I29 L30 0 0
          exact j_return E ⟨rfl, rfl, h⟩ (Nat.zero_le _) (Nat.zero_le _) dX4_move_61
set_option maxRecDepth 100000 in
def f_J6_bitCount_0f7a4 (v0 : Int32) (Z : jZ) (I : jI) (L : jL) (Q : Int32 → jI → jL → Prop) : Prop := (∀ x1 : Int32, x1 = (v0 - (((v0.toUInt32 >>> ((1 : Int32).toUInt32 &&& Int32.toUInt32 31)).toInt32) &&& (1431655765 : Int32))) → (∀ x2 : Int32, x2 = ((x1 &&& (858993459 : Int32)) + (((x1.toUInt32 >>> ((2 : Int32).toUInt32 &&& Int32.toUInt32 31)).toInt32) &&& (858993459 : Int32))) → (∀ x3 : Int32, x3 = ((x2 + ((x2.toUInt32 >>> ((4 : Int32).toUInt32 &&& Int32.toUInt32 31)).toInt32)) &&& (252645135 : Int32)) → (∀ x4 : Int32, x4 = (x3 + ((x3.toUInt32 >>> ((8 : Int32).toUInt32 &&& Int32.toUInt32 31)).toInt32)) → (∀ x5 : Int32, x5 = (x4 + ((x4.toUInt32 >>> ((16 : Int32).toUInt32 &&& Int32.toUInt32 31)).toInt32)) → Q (x5 &&& (63 : Int32)) I L)))))
set_option maxHeartbeats 4000000 in
set_option maxRecDepth 100000 in
theorem c_J6_bitCount_0f7a4 (l : Launch) (D : va_G) (cy : jC) (v0 : Int32) (Z : jZ) (I : jI) (L : jL) (Q : Int32 → jI → jL → Prop) (hZ : SH Z)  (h : f_J6_bitCount_0f7a4 v0 Z I L Q) : jCt l yJ6_bitCount_0f7a4 w_J6_bitCount_0f7a4 { frames := 0, cells := 0, slots := 0, locals := 0 } D cy [.int v0] Z I L (rtI Z Q) := by
  refine jCt_of (cc := cJ6_bitCount_0f7a4) (maxL := 1) (ret := (some .int)) (by decide +kernel) rfl (Nat.le_of_ble_eq_true rfl) ?_
  intro G eD eY eL E
  subst eD; subst eY; subst eL
  have E : jE G cJ6_bitCount_0f7a4 RJ6 w_J6_bitCount_0f7a4 1 (some .int) { frames := 0, cells := 0, slots := 0, locals := 0 } (rtI Z Q) := E
  show jJ G 1 0 [(0, .int v0)] [] Z I L 0 0
  refine j_iload_n E dJ6_bitCount_0f7a4_0 0 rfl ?_
  refine j_iload_n E dJ6_bitCount_0f7a4_1 0 rfl ?_
  refine j_iconst E (v := 1) dJ6_bitCount_0f7a4_2 (by decide) ?_
  refine j_iushr E dJ6_bitCount_0f7a4_3 ?_
  refine j_ldcw E (tw W_232) dJ6_bitCount_0f7a4_4 ?_
  refine j_iand E dJ6_bitCount_0f7a4_7 ?_
  refine j_isub E dJ6_bitCount_0f7a4_8 ?_
  refine j_topi (fun x1 ex1 => ?_)
  have h := h x1 ex1
  refine j_istore_n E 0 [(0, .int x1)] dJ6_bitCount_0f7a4_9 rfl (by decide) rfl ?_
  refine j_iload_n E dJ6_bitCount_0f7a4_10 0 rfl ?_
  refine j_ldcw E (tw W_233) dJ6_bitCount_0f7a4_11 ?_
  refine j_iand E dJ6_bitCount_0f7a4_14 ?_
  refine j_iload_n E dJ6_bitCount_0f7a4_15 0 rfl ?_
  refine j_iconst E (v := 2) dJ6_bitCount_0f7a4_16 (by decide) ?_
  refine j_iushr E dJ6_bitCount_0f7a4_17 ?_
  refine j_ldcw E (tw W_233) dJ6_bitCount_0f7a4_18 ?_
  refine j_iand E dJ6_bitCount_0f7a4_21 ?_
  refine j_iadd E dJ6_bitCount_0f7a4_22 ?_
  refine j_topi (fun x2 ex2 => ?_)
  have h := h x2 ex2
  refine j_istore_n E 0 [(0, .int x2)] dJ6_bitCount_0f7a4_23 rfl (by decide) rfl ?_
  refine j_iload_n E dJ6_bitCount_0f7a4_24 0 rfl ?_
  refine j_iload_n E dJ6_bitCount_0f7a4_25 0 rfl ?_
  refine j_iconst E (v := 4) dJ6_bitCount_0f7a4_26 (by decide) ?_
  refine j_iushr E dJ6_bitCount_0f7a4_27 ?_
  refine j_iadd E dJ6_bitCount_0f7a4_28 ?_
  refine j_ldcw E (tw W_234) dJ6_bitCount_0f7a4_29 ?_
  refine j_iand E dJ6_bitCount_0f7a4_32 ?_
  refine j_topi (fun x3 ex3 => ?_)
  have h := h x3 ex3
  refine j_istore_n E 0 [(0, .int x3)] dJ6_bitCount_0f7a4_33 rfl (by decide) rfl ?_
  refine j_iload_n E dJ6_bitCount_0f7a4_34 0 rfl ?_
  refine j_iload_n E dJ6_bitCount_0f7a4_35 0 rfl ?_
  refine j_bipush E (v := 8) dJ6_bitCount_0f7a4_36 (by decide) ?_
  refine j_iushr E dJ6_bitCount_0f7a4_38 ?_
  refine j_iadd E dJ6_bitCount_0f7a4_39 ?_
  refine j_topi (fun x4 ex4 => ?_)
  have h := h x4 ex4
  refine j_istore_n E 0 [(0, .int x4)] dJ6_bitCount_0f7a4_40 rfl (by decide) rfl ?_
  refine j_iload_n E dJ6_bitCount_0f7a4_41 0 rfl ?_
  refine j_iload_n E dJ6_bitCount_0f7a4_42 0 rfl ?_
  refine j_bipush E (v := 16) dJ6_bitCount_0f7a4_43 (by decide) ?_
  refine j_iushr E dJ6_bitCount_0f7a4_45 ?_
  refine j_iadd E dJ6_bitCount_0f7a4_46 ?_
  refine j_topi (fun x5 ex5 => ?_)
  have h := h x5 ex5
  refine j_istore_n E 0 [(0, .int x5)] dJ6_bitCount_0f7a4_47 rfl (by decide) rfl ?_
  refine j_iload_n E dJ6_bitCount_0f7a4_48 0 rfl ?_
  refine j_bipush E (v := 63) dJ6_bitCount_0f7a4_49 (by decide) ?_
  refine j_iand E dJ6_bitCount_0f7a4_51 ?_
  exact j_ireturn E ⟨rfl, _, rfl, h⟩ (Nat.zero_le _) (Nat.zero_le _) dJ6_bitCount_0f7a4_52
