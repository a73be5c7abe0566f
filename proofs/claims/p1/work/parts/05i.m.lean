set_option maxRecDepth 100000 in
def f_X12_tread_b142 (K121 : Nat → Int32 → Int32 → Int32 → Int32 → Int32 → Int32 → Int32 → jZ → jI → jL → Prop) (Q : Int32 → jZ → jI → jL → Prop) (v0 : Nat) (v1 : Int32) (v2 : Int32) (v3 : Int32) (v4 : Int32) (v5 : Int32) (v6 : Int32) (v7 : Int32) (s0 : Nat) (s1 : Int32) (s2 : Nat) (s3 : Int32) (Z : jZ) (I : jI) (L : jL) : Prop := (∀ b1 : Nat, jr Z v0 12 = some b1 → (vp_in v1 6 ∧ (f_X12_lawOf s2 s3 v7 v3 (I b1 v1.toNatClampNeg) v6 Z I L (fun r8 Z4 I5 L6 => (f_X12_earn s0 s1 r8 (1 : Int32) Z4 I5 L6 (fun I13 L14 => (∀ x16 : Int32, x16 = v7 + 1 → K121 v0 v1 v2 v3 v4 v5 v6 x16 Z4 I13 L14)))))))
set_option maxHeartbeats 4000000 in
set_option maxRecDepth 100000 in
theorem m_X12_tread_b142 {G : jG} {Z0 : jZ} {Q : Int32 → jZ → jI → jL → Prop} (E : jE G cX12_tread RX12 w_X12_tread 8 (some .int) { frames := 3, cells := 0, slots := 0, locals := 74 } (xrtI Z0 Q)) (K121 : Nat → Int32 → Int32 → Int32 → Int32 → Int32 → Int32 → Int32 → jZ → jI → jL → Prop) (hK121 : ∀ (v0 : Nat) (v1 : Int32) (v2 : Int32) (v3 : Int32) (v4 : Int32) (v5 : Int32) (v6 : Int32) (v7 : Int32) (Z : jZ) (I : jI) (L : jL), SH Z → jext Z0 Z → jk Z v0 12 → K121 v0 v1 v2 v3 v4 v5 v6 v7 Z I L → jJ G 8 121 [(0, .ref v0), (1, .int v1), (2, .int v2), (3, .int v3), (4, .int v4), (5, .int v5), (6, .int v6), (7, .int v7)] [] Z I L 0 0) (v0 : Nat) (v1 : Int32) (v2 : Int32) (v3 : Int32) (v4 : Int32) (v5 : Int32) (v6 : Int32) (v7 : Int32) (s0 : Nat) (s1 : Int32) (s2 : Nat) (s3 : Int32) (Z : jZ) (I : jI) (L : jL) (hZ : SH Z) (hx : jext Z0 Z) (kv0 : jk Z v0 12) (ks0 : jk Z s0 12) (ks2 : jk Z s2 12) (h : f_X12_tread_b142 K121 Q v0 v1 v2 v3 v4 v5 v6 v7 s0 s1 s2 s3 Z I L) : jJ G 8 142 [(0, .ref v0), (1, .int v1), (2, .int v2), (3, .int v3), (4, .int v4), (5, .int v5), (6, .int v6), (7, .int v7)] [.int s3, .ref s2, .int s1, .ref s0] Z I L 0 0 := by
  refine j_iload E dX12_tread_142 7 rfl ?_
  refine j_iload_n E dX12_tread_144 3 rfl ?_
  refine j_aload_n E dX12_tread_145 0 rfl ?_
  obtain ⟨b1, eb1, kb1, lb1⟩ := sh_f hZ kv0 (j := 12) (k := 14) (m := 6) rfl
  have h := h b1 eb1
  refine j_getr E 12 12 rfl rfl (by decide) (by decide) (iw iT_12) rfl rfl (tw W_765) kv0 eb1 dX12_tread_146 ?_
  refine j_iload_n E dX12_tread_149 1 rfl ?_
  obtain ⟨o2, h⟩ := h
  refine j_iald E kb1 (by rw [lb1]; exact o2) dX12_tread_150 ?_
  refine j_iload E dX12_tread_151 6 rfl ?_
  refine j_callV E [.int s3, .int v7, .int v3, .int (I b1 v1.toNatClampNeg), .int v6] [.int s1, .ref s0] (c_X12_lawOf (gL G) (gD G) (gY G) s2 s3 v7 v3 (I b1 v1.toNatClampNeg) v6 Z I L _ hZ ks2 h) (gwV W_772 W_773 W_774 W_679 W_771) rfl ⟨rfl, fy_X12_lawOf⟩ ⟨by decide, by decide⟩ (c := 12) rfl (by decide) ks2 rfl rfl (Nat.le_of_ble_eq_true rfl) ⟨Nat.zero_le _, Nat.zero_le _⟩ dX12_tread_153 (fun v3 Z4 I5 L6 q7 => ?_)
  obtain ⟨yZ4, hZ4, r8, rfl, h⟩ := q7
  have hZ := hZ4
  have hx : jext Z0 Z4 := jext_trans hx yZ4
  have k9 := (yZ4 _ _ kv0).1
  have k10 := (yZ4 _ _ ks0).1
  show jJ G 8 156 [(0, .ref v0), (1, .int v1), (2, .int v2), (3, .int v3), (4, .int v4), (5, .int v5), (6, .int v6), (7, .int v7)] [.int r8, .int s1, .ref s0] Z4 I5 L6 0 0
  refine j_iconst E (v := 1) dX12_tread_156 (by decide) ?_
  refine j_callV E [.int s1, .int r8, .int (1 : Int32)] [] (c_X12_earn (gL G) (gD G) (gY G) s0 s1 r8 (1 : Int32) Z4 I5 L6 _ hZ k10 h) (gwV W_800 W_801 W_802 W_679 W_799) rfl ⟨rfl, fy_X12_earn⟩ ⟨by decide, by decide⟩ (c := 12) rfl (by decide) k10 rfl rfl (Nat.le_of_ble_eq_true rfl) ⟨Nat.zero_le _, Nat.zero_le _⟩ dX12_tread_157 (fun v11 Z12 I13 L14 q15 => ?_)
  obtain ⟨rfl, rfl, h⟩ := q15
  show jJ G 8 160 [(0, .ref v0), (1, .int v1), (2, .int v2), (3, .int v3), (4, .int v4), (5, .int v5), (6, .int v6), (7, .int v7)] [] Z4 I13 L14 0 0
  obtain ⟨x16, ex16⟩ : ∃ y : Int32, y = v7 + 1 := ⟨_, rfl⟩
  have h := h x16 ex16
  refine j_iinc E x16 [(7, .int x16), (0, .ref v0), (1, .int v1), (2, .int v2), (3, .int v3), (4, .int v4), (5, .int v5), (6, .int v6)] dX12_tread_160 7 rfl (by rw [ex16]; rfl) (by decide) rfl ?_
  refine j_goto E 121 dX12_tread_163 (by decide) ?_
  refine j_sub [1, 2, 3, 4, 5, 6, 7, 0] rfl ?_
  exact hK121 v0 v1 v2 v3 v4 v5 v6 x16 Z4 I13 L14 hZ hx k9 h
set_option maxRecDepth 100000 in
def f_X12_tread_L121  (Q : Int32 → jZ → jI → jL → Prop) : Nat → Nat → Int32 → Int32 → Int32 → Int32 → Int32 → Int32 → Int32 → jZ → jI → jL → Prop
  | 0 => fun _ _ _ _ _ _ _ _ _ _ _ => False
  | n + 1 => fun v0 v1 v2 v3 v4 v5 v6 v7 Z I L => ((v2 < v7 → (∀ b18 : Nat, jr Z v0 15 = some b18 → (vp_in v1 6 ∧ (vp_in v1 6 ∧ (∀ I21 : jI, I21 = jpI I b18 v1.toNatClampNeg ((I b18 v1.toNatClampNeg) - v4) → (∀ b22 : Nat, jr Z v0 16 = some b22 → (vp_in v1 6 ∧ (vp_in v1 6 ∧ (∀ I25 : jI, I25 = jpI I21 b22 v1.toNatClampNeg ((I21 b22 v1.toNatClampNeg) - v5) → (∀ b26 : Nat, jr Z v0 14 = some b26 → (vp_in v1 6 ∧ (∀ I28 : jI, I28 = jpI I25 b26 v1.toNatClampNeg v2 → Q v5 Z I28 L)))))))))))) ∧ (¬ (v2 < v7) → ((¬ v7 = v2 → f_X12_tread_b142 (f_X12_tread_L121 Q n) Q v0 v1 v2 v3 v4 v5 v6 v7 v0 v7 v0 (1 : Int32) Z I L) ∧ (v7 = v2 → f_X12_tread_b142 (f_X12_tread_L121 Q n) Q v0 v1 v2 v3 v4 v5 v6 v7 v0 v7 v0 (0 : Int32) Z I L))))
set_option maxHeartbeats 4000000 in
set_option maxRecDepth 100000 in
theorem m_X12_tread_L121 {G : jG} {Z0 : jZ} {Q : Int32 → jZ → jI → jL → Prop} (E : jE G cX12_tread RX12 w_X12_tread 8 (some .int) { frames := 3, cells := 0, slots := 0, locals := 74 } (xrtI Z0 Q))  : ∀ (n : Nat) (v0 : Nat) (v1 : Int32) (v2 : Int32) (v3 : Int32) (v4 : Int32) (v5 : Int32) (v6 : Int32) (v7 : Int32) (Z : jZ) (I : jI) (L : jL), SH Z → jext Z0 Z → jk Z v0 12 → f_X12_tread_L121  Q n v0 v1 v2 v3 v4 v5 v6 v7 Z I L → jJ G 8 121 [(0, .ref v0), (1, .int v1), (2, .int v2), (3, .int v3), (4, .int v4), (5, .int v5), (6, .int v6), (7, .int v7)] [] Z I L 0 0 := by
  intro n
  induction n with
  | zero => intro v0 v1 v2 v3 v4 v5 v6 v7 Z I L _ _ _ h; exact h.elim
  | succ n ih =>
    intro v0 v1 v2 v3 v4 v5 v6 v7 Z I L hZ hx kv0 h
    have h : ((v2 < v7 → (∀ b18 : Nat, jr Z v0 15 = some b18 → (vp_in v1 6 ∧ (vp_in v1 6 ∧ (∀ I21 : jI, I21 = jpI I b18 v1.toNatClampNeg ((I b18 v1.toNatClampNeg) - v4) → (∀ b22 : Nat, jr Z v0 16 = some b22 → (vp_in v1 6 ∧ (vp_in v1 6 ∧ (∀ I25 : jI, I25 = jpI I21 b22 v1.toNatClampNeg ((I21 b22 v1.toNatClampNeg) - v5) → (∀ b26 : Nat, jr Z v0 14 = some b26 → (vp_in v1 6 ∧ (∀ I28 : jI, I28 = jpI I25 b26 v1.toNatClampNeg v2 → Q v5 Z I28 L)))))))))))) ∧ (¬ (v2 < v7) → ((¬ v7 = v2 → f_X12_tread_b142 (f_X12_tread_L121 Q n) Q v0 v1 v2 v3 v4 v5 v6 v7 v0 v7 v0 (1 : Int32) Z I L) ∧ (v7 = v2 → f_X12_tread_b142 (f_X12_tread_L121 Q n) Q v0 v1 v2 v3 v4 v5 v6 v7 v0 v7 v0 (0 : Int32) Z I L)))) := h
    obtain ⟨K121, eK121⟩ : ∃ K : Nat → Int32 → Int32 → Int32 → Int32 → Int32 → Int32 → Int32 → jZ → jI → jL → Prop, K = f_X12_tread_L121  Q n := ⟨_, rfl⟩
    have hK121 := ih
    clear eK121 K121
    generalize f_X12_tread_L121  Q n = K121 at hK121 h
    refine j_iload E dX12_tread_121 7 rfl ?_
    refine j_iload_n E dX12_tread_123 2 rfl ?_
    refine j_icmp_gt E 166 dX12_tread_124 (by decide) (fun c17 => ?_) (fun c17 => ?_)
    · have h := h.1 c17
      refine j_aload_n E dX12_tread_166 0 rfl ?_
      obtain ⟨b18, eb18, kb18, lb18⟩ := sh_f hZ kv0 (j := 15) (k := 14) (m := 6) rfl
      have h := h b18 eb18
      refine j_getr E 12 15 rfl rfl (by decide) (by decide) (iw iT_12) rfl rfl (tw W_717) kv0 eb18 dX12_tread_167 ?_
      refine j_iload_n E dX12_tread_170 1 rfl ?_
      refine j_dup2_11 E dX12_tread_171 rfl rfl ?_
      obtain ⟨o19, h⟩ := h
      refine j_iald E kb18 (by rw [lb18]; exact o19) dX12_tread_172 ?_
      refine j_iload E dX12_tread_173 4 rfl ?_
      refine j_isub E dX12_tread_175 ?_
      obtain ⟨o20, h⟩ := h
      refine j_iast E kb18 (by rw [lb18]; exact o20) dX12_tread_176 ?_
      refine j_nmI (fun I21 eI21 => ?_)
      have h := h I21 eI21
      refine j_aload_n E dX12_tread_177 0 rfl ?_
      obtain ⟨b22, eb22, kb22, lb22⟩ := sh_f hZ kv0 (j := 16) (k := 14) (m := 6) rfl
      have h := h b22 eb22
      refine j_getr E 12 16 rfl rfl (by decide) (by decide) (iw iT_12) rfl rfl (tw W_719) kv0 eb22 dX12_tread_178 ?_
      refine j_iload_n E dX12_tread_181 1 rfl ?_
      refine j_dup2_11 E dX12_tread_182 rfl rfl ?_
      obtain ⟨o23, h⟩ := h
      refine j_iald E kb22 (by rw [lb22]; exact o23) dX12_tread_183 ?_
      refine j_iload E dX12_tread_184 5 rfl ?_
      refine j_isub E dX12_tread_186 ?_
      obtain ⟨o24, h⟩ := h
      refine j_iast E kb22 (by rw [lb22]; exact o24) dX12_tread_187 ?_
      refine j_nmI (fun I25 eI25 => ?_)
      have h := h I25 eI25
      refine j_aload_n E dX12_tread_188 0 rfl ?_
      obtain ⟨b26, eb26, kb26, lb26⟩ := sh_f hZ kv0 (j := 14) (k := 14) (m := 6) rfl
      have h := h b26 eb26
      refine j_getr E 12 14 rfl rfl (by decide) (by decide) (iw iT_12) rfl rfl (tw W_716) kv0 eb26 dX12_tread_189 ?_
      refine j_iload_n E dX12_tread_192 1 rfl ?_
      refine j_iload_n E dX12_tread_193 2 rfl ?_
      obtain ⟨o27, h⟩ := h
      refine j_iast E kb26 (by rw [lb26]; exact o27) dX12_tread_194 ?_
      refine j_nmI (fun I28 eI28 => ?_)
      have h := h I28 eI28
      refine j_iload E dX12_tread_195 5 rfl ?_
      exact j_ireturn E ⟨hx, hZ, _, rfl, h⟩ (Nat.zero_le _) (Nat.zero_le _) dX12_tread_197
    · have h := h.2 c17
      refine j_aload_n E dX12_tread_127 0 rfl ?_
      refine j_iload E dX12_tread_128 7 rfl ?_
      refine j_aload_n E dX12_tread_130 0 rfl ?_
      refine j_iload E dX12_tread_131 7 rfl ?_
      refine j_iload_n E dX12_tread_133 2 rfl ?_
      refine j_icmp_ne E 141 dX12_tread_134 (by decide) (fun c29 => ?_) (fun c29 => ?_)
      · have h := h.1 c29
        refine j_iconst E (v := 1) dX12_tread_141 (by decide) ?_
        refine j_sub [0, 1, 2, 3, 4, 5, 6, 7] rfl ?_
        exact m_X12_tread_b142 E K121 hK121 v0 v1 v2 v3 v4 v5 v6 v7 v0 v7 v0 (1 : Int32) Z I L hZ hx kv0 kv0 kv0 h
      · have h := h.2 c29
        refine j_iconst E (v := 0) dX12_tread_137 (by decide) ?_
        refine j_goto E 142 dX12_tread_138 (by decide) ?_
        refine j_sub [0, 1, 2, 3, 4, 5, 6, 7] rfl ?_
        exact m_X12_tread_b142 E K121 hK121 v0 v1 v2 v3 v4 v5 v6 v7 v0 v7 v0 (0 : Int32) Z I L hZ hx kv0 kv0 kv0 h
set_option maxRecDepth 100000 in
def f_X12_tread (v0 : Nat) (v1 : Int32) (v2 : Int32) (Z : jZ) (I : jI) (L : jL) (Q : Int32 → jZ → jI → jL → Prop) : Prop := (∀ I30 : jI, I30 = jpI I v0 22 (0 : Int32) → (f_X12_isOne v0 v1 Z I30 L (fun r36 I33 L34 => ((r36 = 0 → Q (-1 : Int32) Z I33 L34) ∧ (¬ (r36 = 0) → (f_X12_isStep v0 v2 Z I33 L34 (fun r43 I40 L41 => ((¬ r43 = 0 → (∀ b45 : Nat, jr Z v0 14 = some b45 → (vp_in v1 6 ∧ (∀ x47 : Int32, x47 = (I40 b45 v1.toNatClampNeg) → (f_X12_isMove v0 v1 x47 v2 Z I40 L41 (fun r53 I50 L51 => ((¬ r53 = 0 → (f_X12_effortOf v0 v1 x47 v2 Z I50 L51 (fun r60 I57 L58 => (f_X12_costOf v0 v1 x47 v2 Z I57 L58 (fun r66 Z62 I63 L64 => (∀ b68 : Nat, jr Z62 v0 13 = some b68 → (vp_in v1 6 ∧ (f_X12_mainOf v0 v2 Z62 I63 L64 (fun r75 I72 L73 => (f_X12_has (I63 b68 v1.toNatClampNeg) r75 Z62 I72 L73 (fun r81 I78 L79 => ((r81 = 0 → (∀ b83 : Nat, jr Z62 v0 15 = some b83 → (vp_in v1 6 ∧ ((r60 ≤ (I78 b83 v1.toNatClampNeg) → (∀ b86 : Nat, jr Z62 v0 16 = some b86 → (vp_in v1 6 ∧ ((r66 ≤ (I78 b86 v1.toNatClampNeg) → (∀ x89 : Int32, x89 = ((v2 - x47) - (1 : Int32)) → (∀ x90 : Int32, x90 = (x47 + (1 : Int32)) → (∃ m121 : Nat, f_X12_tread_L121  Q m121 v0 v1 v2 x47 r60 r66 x89 x90 Z62 I78 L79)))) ∧ (¬ (r66 ≤ (I78 b86 v1.toNatClampNeg)) → Q (-5 : Int32) Z62 I78 L79))))) ∧ (¬ (r60 ≤ (I78 b83 v1.toNatClampNeg)) → Q (-4 : Int32) Z62 I78 L79))))) ∧ (¬ (r81 = 0) → Q (-3 : Int32) Z62 I78 L79))))))))))))) ∧ (r53 = 0 → Q (-2 : Int32) Z I50 L51)))))))) ∧ (r43 = 0 → Q (-1 : Int32) Z I40 L41)))))))))
set_option maxHeartbeats 4000000 in
set_option maxRecDepth 100000 in
theorem c_X12_tread (l : Launch) (D : va_G) (cy : jC) (v0 : Nat) (v1 : Int32) (v2 : Int32) (Z : jZ) (I : jI) (L : jL) (Q : Int32 → jZ → jI → jL → Prop) (hZ : SH Z) (kv0 : jk Z v0 12) (h : f_X12_tread v0 v1 v2 Z I L Q) : jCt l yX12_tread w_X12_tread { frames := 3, cells := 0, slots := 0, locals := 74 } D cy [.ref v0, .int v1, .int v2] Z I L (xrtI Z Q) := by
  refine jCt_of (cc := cX12_tread) (maxL := 8) (ret := (some .int)) (by decide +kernel) rfl (Nat.le_of_ble_eq_true rfl) ?_
  intro G eD eY eL E
  subst eD; subst eY; subst eL
  have E : jE G cX12_tread RX12 w_X12_tread 8 (some .int) { frames := 3, cells := 0, slots := 0, locals := 74 } (xrtI Z Q) := E
  have hx : jext Z Z := jext_rfl
  show jJ G 8 0 [(0, .ref v0), (1, .int v1), (2, .int v2)] [] Z I L 0 0
  refine j_aload_n E dX12_tread_0 0 rfl ?_
  refine j_iconst E (v := 0) dX12_tread_1 (by decide) ?_
  refine j_puti E 12 22 rfl rfl (by decide) (by decide) (iw iT_12) tyX12_ok nmX12 rfl rfl (tw W_674) rfl rfl rfl kv0 dX12_tread_2 ?_
  refine j_nmI (fun I30 eI30 => ?_)
  have h := h I30 eI30
  refine j_aload_n E dX12_tread_5 0 rfl ?_
  refine j_iload_n E dX12_tread_6 1 rfl ?_
  refine j_callV E [.int v1] [] (c_X12_isOne (gL G) (gD G) (gY G) v0 v1 Z I30 L _ hZ kv0 h) (gwV W_768 W_769 W_770 W_679 W_767) rfl ⟨rfl, fy_X12_isOne⟩ ⟨by decide, by decide⟩ (c := 12) rfl (by decide) kv0 rfl rfl (Nat.le_of_ble_eq_true rfl) ⟨Nat.zero_le _, Nat.zero_le _⟩ dX12_tread_7 (fun v31 Z32 I33 L34 q35 => ?_)
  obtain ⟨rfl, r36, rfl, zr36, h⟩ := q35
  show jJ G 8 10 [(0, .ref v0), (1, .int v1), (2, .int v2)] [.int r36] Z I33 L34 0 0
  refine j_if_eq E 21 dX12_tread_10 (by decide) (fun c37 => ?_) (fun c37 => ?_)
  · have h := h.1 c37
    refine j_iconst E (v := -1) dX12_tread_21 (by decide) ?_
    exact j_ireturn E ⟨hx, hZ, _, rfl, h⟩ (Nat.zero_le _) (Nat.zero_le _) dX12_tread_22
  · have h := h.2 c37
    refine j_aload_n E dX12_tread_13 0 rfl ?_
    refine j_iload_n E dX12_tread_14 2 rfl ?_
    refine j_callV E [.int v2] [] (c_X12_isStep (gL G) (gD G) (gY G) v0 v2 Z I33 L34 _ hZ kv0 h) (gwV W_752 W_753 W_754 W_679 W_751) rfl ⟨rfl, fy_X12_isStep⟩ ⟨by decide, by decide⟩ (c := 12) rfl (by decide) kv0 rfl rfl (Nat.le_of_ble_eq_true rfl) ⟨Nat.zero_le _, Nat.zero_le _⟩ dX12_tread_15 (fun v38 Z39 I40 L41 q42 => ?_)
    obtain ⟨rfl, r43, rfl, zr43, h⟩ := q42
    show jJ G 8 18 [(0, .ref v0), (1, .int v1), (2, .int v2)] [.int r43] Z I40 L41 0 0
    refine j_if_ne E 23 dX12_tread_18 (by decide) (fun c44 => ?_) (fun c44 => ?_)
    · have h := h.1 c44
      refine j_aload_n E dX12_tread_23 0 rfl ?_
      obtain ⟨b45, eb45, kb45, lb45⟩ := sh_f hZ kv0 (j := 14) (k := 14) (m := 6) rfl
      have h := h b45 eb45
      refine j_getr E 12 14 rfl rfl (by decide) (by decide) (iw iT_12) rfl rfl (tw W_716) kv0 eb45 dX12_tread_24 ?_
      refine j_iload_n E dX12_tread_27 1 rfl ?_
      obtain ⟨o46, h⟩ := h
      refine j_iald E kb45 (by rw [lb45]; exact o46) dX12_tread_28 ?_
      refine j_topi (fun x47 ex47 => ?_)
      have h := h x47 ex47
      refine j_istore_n E 3 [(3, .int x47), (0, .ref v0), (1, .int v1), (2, .int v2)] dX12_tread_29 rfl (by decide) rfl ?_
      refine j_aload_n E dX12_tread_30 1 rfl ?_
      refine j_iload_n E dX12_tread_31 2 rfl ?_
      refine j_iload_n E dX12_tread_32 0 rfl ?_
      refine j_iload_n E dX12_tread_33 3 rfl ?_
      refine j_callV E [.int v1, .int x47, .int v2] [] (c_X12_isMove (gL G) (gD G) (gY G) v0 v1 x47 v2 Z I40 L41 _ hZ kv0 h) (gwV W_776 W_777 W_778 W_679 W_775) rfl ⟨rfl, fy_X12_isMove⟩ ⟨by decide, by decide⟩ (c := 12) rfl (by decide) kv0 rfl rfl (Nat.le_of_ble_eq_true rfl) ⟨Nat.zero_le _, Nat.zero_le _⟩ dX12_tread_34 (fun v48 Z49 I50 L51 q52 => ?_)
      obtain ⟨rfl, r53, rfl, zr53, h⟩ := q52
      show jJ G 8 37 [(3, .int x47), (0, .ref v0), (1, .int v1), (2, .int v2)] [.int r53] Z I50 L51 0 0
      refine j_if_ne E 43 dX12_tread_37 (by decide) (fun c54 => ?_) (fun c54 => ?_)
      · have h := h.1 c54
        refine j_aload_n E dX12_tread_43 1 rfl ?_
        refine j_iload_n E dX12_tread_44 2 rfl ?_
        refine j_iload_n E dX12_tread_45 0 rfl ?_
        refine j_iload_n E dX12_tread_46 3 rfl ?_
        refine j_callV E [.int v1, .int x47, .int v2] [] (c_X12_effortOf (gL G) (gD G) (gY G) v0 v1 x47 v2 Z I50 L51 _ hZ kv0 h) (gwV W_780 W_781 W_782 W_679 W_779) rfl ⟨rfl, fy_X12_effortOf⟩ ⟨by decide, by decide⟩ (c := 12) rfl (by decide) kv0 rfl rfl (Nat.le_of_ble_eq_true rfl) ⟨Nat.zero_le _, Nat.zero_le _⟩ dX12_tread_47 (fun v55 Z56 I57 L58 q59 => ?_)
        obtain ⟨rfl, r60, rfl, h⟩ := q59
        show jJ G 8 50 [(3, .int x47), (0, .ref v0), (1, .int v1), (2, .int v2)] [.int r60] Z I57 L58 0 0
        refine j_istore E 4 [(4, .int r60), (3, .int x47), (0, .ref v0), (1, .int v1), (2, .int v2)] dX12_tread_50 (by decide) rfl ?_
        refine j_aload_n E dX12_tread_52 2 rfl ?_
        refine j_iload_n E dX12_tread_53 3 rfl ?_
        refine j_iload_n E dX12_tread_54 1 rfl ?_
        refine j_iload_n E dX12_tread_55 4 rfl ?_
        refine j_callV E [.int v1, .int x47, .int v2] [] (c_X12_costOf (gL G) (gD G) (gY G) v0 v1 x47 v2 Z I57 L58 _ hZ kv0 h) (gwV W_788 W_789 W_790 W_679 W_787) rfl ⟨rfl, fy_X12_costOf⟩ ⟨by decide, by decide⟩ (c := 12) rfl (by decide) kv0 rfl rfl (Nat.le_of_ble_eq_true rfl) ⟨Nat.zero_le _, Nat.zero_le _⟩ dX12_tread_56 (fun v61 Z62 I63 L64 q65 => ?_)
        obtain ⟨yZ62, hZ62, r66, rfl, h⟩ := q65
        have hZ := hZ62
        have hx : jext Z Z62 := jext_trans hx yZ62
        have k67 := (yZ62 _ _ kv0).1
        show jJ G 8 59 [(4, .int r60), (3, .int x47), (0, .ref v0), (1, .int v1), (2, .int v2)] [.int r66] Z62 I63 L64 0 0
        refine j_istore E 5 [(5, .int r66), (4, .int r60), (3, .int x47), (0, .ref v0), (1, .int v1), (2, .int v2)] dX12_tread_59 (by decide) rfl ?_
        refine j_aload_n E dX12_tread_61 3 rfl ?_
        obtain ⟨b68, eb68, kb68, lb68⟩ := sh_f hZ k67 (j := 13) (k := 14) (m := 6) rfl
        have h := h b68 eb68
        refine j_getr E 12 13 rfl rfl (by decide) (by decide) (iw iT_12) rfl rfl (tw W_766) k67 eb68 dX12_tread_62 ?_
        refine j_iload_n E dX12_tread_65 4 rfl ?_
        obtain ⟨o69, h⟩ := h
        refine j_iald E kb68 (by rw [lb68]; exact o69) dX12_tread_66 ?_
        refine j_aload_n E dX12_tread_67 3 rfl ?_
        refine j_iload_n E dX12_tread_68 5 rfl ?_
        refine j_callV E [.int v2] [.int (I63 b68 v1.toNatClampNeg)] (c_X12_mainOf (gL G) (gD G) (gY G) v0 v2 Z62 I63 L64 _ hZ k67 h) (gwV W_741 W_742 W_743 W_679 W_740) rfl ⟨rfl, fy_X12_mainOf⟩ ⟨by decide, by decide⟩ (c := 12) rfl (by decide) k67 rfl rfl (Nat.le_of_ble_eq_true rfl) ⟨Nat.zero_le _, Nat.zero_le _⟩ dX12_tread_69 (fun v70 Z71 I72 L73 q74 => ?_)
        obtain ⟨rfl, r75, rfl, h⟩ := q74
        show jJ G 8 72 [(5, .int r66), (4, .int r60), (3, .int x47), (0, .ref v0), (1, .int v1), (2, .int v2)] [.int r75, .int (I63 b68 v1.toNatClampNeg)] Z62 I72 L73 0 0
        refine j_callS E [.int (I63 b68 v1.toNatClampNeg), .int r75] [] (c_X12_has (gL G) (gD G) (gY G) (I63 b68 v1.toNatClampNeg) r75 Z62 I72 L73 _ hZ  h) (gwS W_804 W_805 W_679 W_803) rfl fy_X12_has ⟨by decide, by decide⟩ rfl rfl (Nat.le_of_ble_eq_true rfl) ⟨Nat.zero_le _, Nat.zero_le _⟩ dX12_tread_72 (fun v76 Z77 I78 L79 q80 => ?_)
        obtain ⟨rfl, r81, rfl, zr81, h⟩ := q80
        show jJ G 8 75 [(5, .int r66), (4, .int r60), (3, .int x47), (0, .ref v0), (1, .int v1), (2, .int v2)] [.int r81] Z62 I78 L79 0 0
        refine j_if_eq E 81 dX12_tread_75 (by decide) (fun c82 => ?_) (fun c82 => ?_)
        · have h := h.1 c82
          refine j_iload E dX12_tread_81 1 rfl ?_
          refine j_aload_n E dX12_tread_83 3 rfl ?_
          obtain ⟨b83, eb83, kb83, lb83⟩ := sh_f hZ k67 (j := 15) (k := 14) (m := 6) rfl
          have h := h b83 eb83
          refine j_getr E 12 15 rfl rfl (by decide) (by decide) (iw iT_12) rfl rfl (tw W_717) k67 eb83 dX12_tread_84 ?_
          refine j_iload_n E dX12_tread_87 4 rfl ?_
          obtain ⟨o84, h⟩ := h
          refine j_iald E kb83 (by rw [lb83]; exact o84) dX12_tread_88 ?_
          refine j_icmp_le E 95 dX12_tread_89 (by decide) (fun c85 => ?_) (fun c85 => ?_)
          · have h := h.1 c85
            refine j_iload E dX12_tread_95 0 rfl ?_
            refine j_aload_n E dX12_tread_97 3 rfl ?_
            obtain ⟨b86, eb86, kb86, lb86⟩ := sh_f hZ k67 (j := 16) (k := 14) (m := 6) rfl
            have h := h b86 eb86
            refine j_getr E 12 16 rfl rfl (by decide) (by decide) (iw iT_12) rfl rfl (tw W_719) k67 eb86 dX12_tread_98 ?_
            refine j_iload_n E dX12_tread_101 4 rfl ?_
            obtain ⟨o87, h⟩ := h
            refine j_iald E kb86 (by rw [lb86]; exact o87) dX12_tread_102 ?_
            refine j_icmp_le E 109 dX12_tread_103 (by decide) (fun c88 => ?_) (fun c88 => ?_)
            · have h := h.1 c88
              refine j_iload_n E dX12_tread_109 5 rfl ?_
              refine j_iload_n E dX12_tread_110 2 rfl ?_
              refine j_isub E dX12_tread_111 ?_
              refine j_iconst E (v := 1) dX12_tread_112 (by decide) ?_
              refine j_isub E dX12_tread_113 ?_
              refine j_topi (fun x89 ex89 => ?_)
              have h := h x89 ex89
              refine j_istore E 6 [(6, .int x89), (5, .int r66), (4, .int r60), (3, .int x47), (0, .ref v0), (1, .int v1), (2, .int v2)] dX12_tread_114 (by decide) rfl ?_
              refine j_iload_n E dX12_tread_116 3 rfl ?_
              refine j_iconst E (v := 1) dX12_tread_117 (by decide) ?_
              refine j_iadd E dX12_tread_118 ?_
              refine j_topi (fun x90 ex90 => ?_)
              have h := h x90 ex90
              refine j_istore E 7 [(7, .int x90), (6, .int x89), (5, .int r66), (4, .int r60), (3, .int x47), (0, .ref v0), (1, .int v1), (2, .int v2)] dX12_tread_119 (by decide) rfl ?_
              obtain ⟨n91, h⟩ := h
              refine j_sub [5, 6, 7, 4, 3, 2, 1, 0] rfl ?_
              exact m_X12_tread_L121 E  n91 v0 v1 v2 x47 r60 r66 x89 x90 Z62 I78 L79 hZ hx k67 h
            · have h := h.2 c88
              refine j_bipush E (v := -5) dX12_tread_106 (by decide) ?_
              exact j_ireturn E ⟨hx, hZ, _, rfl, h⟩ (Nat.zero_le _) (Nat.zero_le _) dX12_tread_108
          · have h := h.2 c85
            refine j_bipush E (v := -4) dX12_tread_92 (by decide) ?_
            exact j_ireturn E ⟨hx, hZ, _, rfl, h⟩ (Nat.zero_le _) (Nat.zero_le _) dX12_tread_94
        · have h := h.2 c82
          refine j_bipush E (v := -3) dX12_tread_78 (by decide) ?_
          exact j_ireturn E ⟨hx, hZ, _, rfl, h⟩ (Nat.zero_le _) (Nat.zero_le _) dX12_tread_80
      · have h := h.2 c54
        refine j_bipush E (v := -2) dX12_tread_40 (by decide) ?_
        exact j_ireturn E ⟨hx, hZ, _, rfl, h⟩ (Nat.zero_le _) (Nat.zero_le _) dX12_tread_42
    · have h := h.2 c44
      refine j_iconst E (v := -1) dX12_tread_21 (by decide) ?_
      exact j_ireturn E ⟨hx, hZ, _, rfl, h⟩ (Nat.zero_le _) (Nat.zero_le _) dX12_tread_22
set_option maxRecDepth 100000 in
def f_X12_rests_b55  (Q : Int32 → jZ → jI → jL → Prop) (v0 : Nat) (v1 : Int32) (v2 : Int32) (v3 : Int32) (s0 : Int32) (Z : jZ) (I : jI) (L : jL) : Prop := (∀ b1 : Nat, jr Z v0 16 = some b1 → (vp_in v1 6 ∧ ((s0 ≤ (I b1 v1.toNatClampNeg) → (∀ b4 : Nat, jr Z v0 16 = some b4 → (vp_in v1 6 ∧ (vp_in v1 6 ∧ (∀ I7 : jI, I7 = jpI I b4 v1.toNatClampNeg ((I b4 v1.toNatClampNeg) - s0) → (∀ b8 : Nat, jr Z v0 15 = some b8 → (∀ b9 : Nat, jr Z v0 9 = some b9 → (vp_in v1 6 ∧ (∀ b11 : Nat, jr Z v0 15 = some b11 → (vp_in v1 6 ∧ (vp_in v1 6 ∧ (∀ I14 : jI, I14 = jpI I7 b8 v1.toNatClampNeg (if ((I7 b11 v1.toNatClampNeg) + v2) < (I7 b9 v1.toNatClampNeg) then ((I7 b11 v1.toNatClampNeg) + v2) else (I7 b9 v1.toNatClampNeg)) → ((v3 = (-1 : Int32) → Q s0 Z I14 L) ∧ (¬ (v3 = (-1 : Int32)) → (f_X12_earn v0 v3 s0 (1 : Int32) Z I14 L (fun I18 L19 => Q s0 Z I18 L19)))))))))))))))) ∧ (¬ (s0 ≤ (I b1 v1.toNatClampNeg)) → Q (-5 : Int32) Z I L))))
set_option maxHeartbeats 4000000 in
set_option maxRecDepth 100000 in
theorem m_X12_rests_b55 {G : jG} {Z0 : jZ} {Q : Int32 → jZ → jI → jL → Prop} (E : jE G cX12_rests RX12 w_X12_rests 5 (some .int) { frames := 2, cells := 0, slots := 0, locals := 53 } (xrtI Z0 Q))  (v0 : Nat) (v1 : Int32) (v2 : Int32) (v3 : Int32) (s0 : Int32) (Z : jZ) (I : jI) (L : jL) (hZ : SH Z) (hx : jext Z0 Z) (kv0 : jk Z v0 12) (h : f_X12_rests_b55  Q v0 v1 v2 v3 s0 Z I L) : jJ G 5 55 [(0, .ref v0), (1, .int v1), (2, .int v2), (3, .int v3)] [.int s0] Z I L 0 0 := by
  refine j_istore E 4 [(4, .int s0), (0, .ref v0), (1, .int v1), (2, .int v2), (3, .int v3)] dX12_rests_55 (by decide) rfl ?_
  refine j_iload E dX12_rests_57 0 rfl ?_
  refine j_aload_n E dX12_rests_59 1 rfl ?_
  obtain ⟨b1, eb1, kb1, lb1⟩ := sh_f hZ kv0 (j := 16) (k := 14) (m := 6) rfl
  have h := h b1 eb1
  refine j_getr E 12 16 rfl rfl (by decide) (by decide) (iw iT_12) rfl rfl (tw W_719) kv0 eb1 dX12_rests_60 ?_
  refine j_iload_n E dX12_rests_63 2 rfl ?_
  obtain ⟨o2, h⟩ := h
  refine j_iald E kb1 (by rw [lb1]; exact o2) dX12_rests_64 ?_
  refine j_icmp_le E 71 dX12_rests_65 (by decide) (fun c3 => ?_) (fun c3 => ?_)
  · have h := h.1 c3
    refine j_aload_n E dX12_rests_71 1 rfl ?_
    obtain ⟨b4, eb4, kb4, lb4⟩ := sh_f hZ kv0 (j := 16) (k := 14) (m := 6) rfl
    have h := h b4 eb4
    refine j_getr E 12 16 rfl rfl (by decide) (by decide) (iw iT_12) rfl rfl (tw W_719) kv0 eb4 dX12_rests_72 ?_
    refine j_iload_n E dX12_rests_75 2 rfl ?_
    refine j_dup2_11 E dX12_rests_76 rfl rfl ?_
    obtain ⟨o5, h⟩ := h
    refine j_iald E kb4 (by rw [lb4]; exact o5) dX12_rests_77 ?_
    refine j_iload E dX12_rests_78 0 rfl ?_
    refine j_isub E dX12_rests_80 ?_
    obtain ⟨o6, h⟩ := h
    refine j_iast E kb4 (by rw [lb4]; exact o6) dX12_rests_81 ?_
    refine j_nmI (fun I7 eI7 => ?_)
    have h := h I7 eI7
    refine j_aload_n E dX12_rests_82 1 rfl ?_
    obtain ⟨b8, eb8, kb8, lb8⟩ := sh_f hZ kv0 (j := 15) (k := 14) (m := 6) rfl
    have h := h b8 eb8
    refine j_getr E 12 15 rfl rfl (by decide) (by decide) (iw iT_12) rfl rfl (tw W_717) kv0 eb8 dX12_rests_83 ?_
    refine j_iload_n E dX12_rests_86 2 rfl ?_
    refine j_aload_n E dX12_rests_87 1 rfl ?_
    obtain ⟨b9, eb9, kb9, lb9⟩ := sh_f hZ kv0 (j := 9) (k := 14) (m := 6) rfl
    have h := h b9 eb9
    refine j_getr E 12 9 rfl rfl (by decide) (by decide) (iw iT_12) rfl rfl (tw W_718) kv0 eb9 dX12_rests_88 ?_
    refine j_iload_n E dX12_rests_91 2 rfl ?_
    obtain ⟨o10, h⟩ := h
    refine j_iald E kb9 (by rw [lb9]; exact o10) dX12_rests_92 ?_
    refine j_aload_n E dX12_rests_93 1 rfl ?_
    obtain ⟨b11, eb11, kb11, lb11⟩ := sh_f hZ kv0 (j := 15) (k := 14) (m := 6) rfl
    have h := h b11 eb11
    refine j_getr E 12 15 rfl rfl (by decide) (by decide) (iw iT_12) rfl rfl (tw W_717) kv0 eb11 dX12_rests_94 ?_
    refine j_iload_n E dX12_rests_97 2 rfl ?_
    obtain ⟨o12, h⟩ := h
    refine j_iald E kb11 (by rw [lb11]; exact o12) dX12_rests_98 ?_
    refine j_iload_n E dX12_rests_99 3 rfl ?_
    refine j_iadd E dX12_rests_100 ?_
    refine j_min E (tw W_755) (tw W_118) (tw W_119) (tw W_120) (by decide) (Nat.le_of_ble_eq_true rfl) (Nat.zero_le _) (Nat.zero_le _) dX12_rests_101 ?_
    obtain ⟨o13, h⟩ := h
    refine j_iast E kb8 (by rw [lb8]; exact o13) dX12_rests_104 ?_
    refine j_nmI (fun I14 eI14 => ?_)
    have h := h I14 eI14
    refine j_iload_n E dX12_rests_105 4 rfl ?_
    refine j_iconst E (v := -1) dX12_rests_106 (by decide) ?_
    refine j_icmp_eq E 118 dX12_rests_107 (by decide) (fun c15 => ?_) (fun c15 => ?_)
    · have h := h.1 c15
      refine j_iload E dX12_rests_118 0 rfl ?_
      exact j_ireturn E ⟨hx, hZ, _, rfl, h⟩ (Nat.zero_le _) (Nat.zero_le _) dX12_rests_120
    · have h := h.2 c15
      refine j_aload_n E dX12_rests_110 1 rfl ?_
      refine j_iload_n E dX12_rests_111 4 rfl ?_
      refine j_iload E dX12_rests_112 0 rfl ?_
      refine j_iconst E (v := 1) dX12_rests_114 (by decide) ?_
      refine j_callV E [.int v3, .int s0, .int (1 : Int32)] [] (c_X12_earn (gL G) (gD G) (gY G) v0 v3 s0 (1 : Int32) Z I14 L _ hZ kv0 h) (gwV W_800 W_801 W_802 W_679 W_799) rfl ⟨rfl, fy_X12_earn⟩ ⟨by decide, by decide⟩ (c := 12) rfl (by decide) kv0 rfl rfl (Nat.le_of_ble_eq_true rfl) ⟨Nat.zero_le _, Nat.zero_le _⟩ dX12_rests_115 (fun v16 Z17 I18 L19 q20 => ?_)
      obtain ⟨rfl, rfl, h⟩ := q20
      show jJ G 5 118 [(4, .int s0), (0, .ref v0), (1, .int v1), (2, .int v2), (3, .int v3)] [] Z I18 L19 0 0
      refine j_iload E dX12_rests_118 0 rfl ?_
      exact j_ireturn E ⟨hx, hZ, _, rfl, h⟩ (Nat.zero_le _) (Nat.zero_le _) dX12_rests_120
  · have h := h.2 c3
    refine j_bipush E (v := -5) dX12_rests_68 (by decide) ?_
    exact j_ireturn E ⟨hx, hZ, _, rfl, h⟩ (Nat.zero_le _) (Nat.zero_le _) dX12_rests_70
set_option maxRecDepth 100000 in
def f_X12_rests (v0 : Nat) (v1 : Int32) (v2 : Int32) (Z : jZ) (I : jI) (L : jL) (Q : Int32 → jZ → jI → jL → Prop) : Prop := (∀ I21 : jI, I21 = jpI I v0 22 (0 : Int32) → (f_X12_isOne v0 v1 Z I21 L (fun r27 I24 L25 => ((r27 = 0 → Q (-1 : Int32) Z I24 L25) ∧ (¬ (r27 = 0) → (f_X12_in v2 (1 : Int32) (30 : Int32) Z I24 L25 (fun r34 I31 L32 => ((¬ r34 = 0 → (∀ b36 : Nat, jr Z v0 14 = some b36 → (vp_in v1 6 ∧ (∀ x38 : Int32, x38 = (I31 b36 v1.toNatClampNeg) → ((¬ x38 = (-1 : Int32) → (∀ b40 : Nat, jr Z v0 12 = some b40 → (vp_in v1 6 ∧ (f_X12_lawOf v0 (0 : Int32) x38 x38 (I31 b40 v1.toNatClampNeg) (0 : Int32) Z I31 L32 (fun r47 Z43 I44 L45 => f_X12_rests_b55  Q v0 v1 v2 x38 r47 Z43 I44 L45))))) ∧ (x38 = (-1 : Int32) → f_X12_rests_b55  Q v0 v1 v2 x38 (0 : Int32) Z I31 L32)))))) ∧ (r34 = 0 → Q (-1 : Int32) Z I31 L32)))))))))
set_option maxHeartbeats 4000000 in
set_option maxRecDepth 100000 in
theorem c_X12_rests (l : Launch) (D : va_G) (cy : jC) (v0 : Nat) (v1 : Int32) (v2 : Int32) (Z : jZ) (I : jI) (L : jL) (Q : Int32 → jZ → jI → jL → Prop) (hZ : SH Z) (kv0 : jk Z v0 12) (h : f_X12_rests v0 v1 v2 Z I L Q) : jCt l yX12_rests w_X12_rests { frames := 2, cells := 0, slots := 0, locals := 53 } D cy [.ref v0, .int v1, .int v2] Z I L (xrtI Z Q) := by
  refine jCt_of (cc := cX12_rests) (maxL := 5) (ret := (some .int)) (by decide +kernel) rfl (Nat.le_of_ble_eq_true rfl) ?_
  intro G eD eY eL E
  subst eD; subst eY; subst eL
  have E : jE G cX12_rests RX12 w_X12_rests 5 (some .int) { frames := 2, cells := 0, slots := 0, locals := 53 } (xrtI Z Q) := E
  have hx : jext Z Z := jext_rfl
  show jJ G 5 0 [(0, .ref v0), (1, .int v1), (2, .int v2)] [] Z I L 0 0
  refine j_aload_n E dX12_rests_0 0 rfl ?_
  refine j_iconst E (v := 0) dX12_rests_1 (by decide) ?_
  refine j_puti E 12 22 rfl rfl (by decide) (by decide) (iw iT_12) tyX12_ok nmX12 rfl rfl (tw W_674) rfl rfl rfl kv0 dX12_rests_2 ?_
  refine j_nmI (fun I21 eI21 => ?_)
  have h := h I21 eI21
  refine j_aload_n E dX12_rests_5 0 rfl ?_
  refine j_iload_n E dX12_rests_6 1 rfl ?_
  refine j_callV E [.int v1] [] (c_X12_isOne (gL G) (gD G) (gY G) v0 v1 Z I21 L _ hZ kv0 h) (gwV W_768 W_769 W_770 W_679 W_767) rfl ⟨rfl, fy_X12_isOne⟩ ⟨by decide, by decide⟩ (c := 12) rfl (by decide) kv0 rfl rfl (Nat.le_of_ble_eq_true rfl) ⟨Nat.zero_le _, Nat.zero_le _⟩ dX12_rests_7 (fun v22 Z23 I24 L25 q26 => ?_)
  obtain ⟨rfl, r27, rfl, zr27, h⟩ := q26
  show jJ G 5 10 [(0, .ref v0), (1, .int v1), (2, .int v2)] [.int r27] Z I24 L25 0 0
  refine j_if_eq E 23 dX12_rests_10 (by decide) (fun c28 => ?_) (fun c28 => ?_)
  · have h := h.1 c28
    refine j_iconst E (v := -1) dX12_rests_23 (by decide) ?_
    exact j_ireturn E ⟨hx, hZ, _, rfl, h⟩ (Nat.zero_le _) (Nat.zero_le _) dX12_rests_24
  · have h := h.2 c28
    refine j_iload_n E dX12_rests_13 2 rfl ?_
    refine j_iconst E (v := 1) dX12_rests_14 (by decide) ?_
    refine j_bipush E (v := 30) dX12_rests_15 (by decide) ?_
    refine j_callS E [.int v2, .int (1 : Int32), .int (30 : Int32)] [] (c_X12_in (gL G) (gD G) (gY G) v2 (1 : Int32) (30 : Int32) Z I24 L25 _ hZ  h) (gwS W_680 W_681 W_679 W_678) rfl fy_X12_in ⟨by decide, by decide⟩ rfl rfl (Nat.le_of_ble_eq_true rfl) ⟨Nat.zero_le _, Nat.zero_le _⟩ dX12_rests_17 (fun v29 Z30 I31 L32 q33 => ?_)
    obtain ⟨rfl, r34, rfl, zr34, h⟩ := q33
    show jJ G 5 20 [(0, .ref v0), (1, .int v1), (2, .int v2)] [.int r34] Z I31 L32 0 0
    refine j_if_ne E 25 dX12_rests_20 (by decide) (fun c35 => ?_) (fun c35 => ?_)
    · have h := h.1 c35
      refine j_aload_n E dX12_rests_25 0 rfl ?_
      obtain ⟨b36, eb36, kb36, lb36⟩ := sh_f hZ kv0 (j := 14) (k := 14) (m := 6) rfl
      have h := h b36 eb36
      refine j_getr E 12 14 rfl rfl (by decide) (by decide) (iw iT_12) rfl rfl (tw W_716) kv0 eb36 dX12_rests_26 ?_
      refine j_iload_n E dX12_rests_29 1 rfl ?_
      obtain ⟨o37, h⟩ := h
      refine j_iald E kb36 (by rw [lb36]; exact o37) dX12_rests_30 ?_
      refine j_topi (fun x38 ex38 => ?_)
      have h := h x38 ex38
      refine j_istore_n E 3 [(3, .int x38), (0, .ref v0), (1, .int v1), (2, .int v2)] dX12_rests_31 rfl (by decide) rfl ?_
      refine j_iload_n E dX12_rests_32 0 rfl ?_
      refine j_iconst E (v := -1) dX12_rests_33 (by decide) ?_
      refine j_icmp_ne E 41 dX12_rests_34 (by decide) (fun c39 => ?_) (fun c39 => ?_)
      · have h := h.1 c39
        refine j_aload_n E dX12_rests_41 1 rfl ?_
        refine j_iconst E (v := 0) dX12_rests_42 (by decide) ?_
        refine j_iload_n E dX12_rests_43 0 rfl ?_
        refine j_iload_n E dX12_rests_44 0 rfl ?_
        refine j_aload_n E dX12_rests_45 1 rfl ?_
        obtain ⟨b40, eb40, kb40, lb40⟩ := sh_f hZ kv0 (j := 12) (k := 14) (m := 6) rfl
        have h := h b40 eb40
        refine j_getr E 12 12 rfl rfl (by decide) (by decide) (iw iT_12) rfl rfl (tw W_765) kv0 eb40 dX12_rests_46 ?_
        refine j_iload_n E dX12_rests_49 2 rfl ?_
        obtain ⟨o41, h⟩ := h
        refine j_iald E kb40 (by rw [lb40]; exact o41) dX12_rests_50 ?_
        refine j_iconst E (v := 0) dX12_rests_51 (by decide) ?_
        refine j_callV E [.int (0 : Int32), .int x38, .int x38, .int (I31 b40 v1.toNatClampNeg), .int (0 : Int32)] [] (c_X12_lawOf (gL G) (gD G) (gY G) v0 (0 : Int32) x38 x38 (I31 b40 v1.toNatClampNeg) (0 : Int32) Z I31 L32 _ hZ kv0 h) (gwV W_772 W_773 W_774 W_679 W_771) rfl ⟨rfl, fy_X12_lawOf⟩ ⟨by decide, by decide⟩ (c := 12) rfl (by decide) kv0 rfl rfl (Nat.le_of_ble_eq_true rfl) ⟨Nat.zero_le _, Nat.zero_le _⟩ dX12_rests_52 (fun v42 Z43 I44 L45 q46 => ?_)
        obtain ⟨yZ43, hZ43, r47, rfl, h⟩ := q46
        have hZ := hZ43
        have hx : jext Z Z43 := jext_trans hx yZ43
        have k48 := (yZ43 _ _ kv0).1
        show jJ G 5 55 [(3, .int x38), (0, .ref v0), (1, .int v1), (2, .int v2)] [.int r47] Z43 I44 L45 0 0
        refine j_sub [1, 2, 3, 0] rfl ?_
        exact m_X12_rests_b55 E  v0 v1 v2 x38 r47 Z43 I44 L45 hZ hx k48 h
      · have h := h.2 c39
        refine j_iconst E (v := 0) dX12_rests_37 (by decide) ?_
        refine j_goto E 55 dX12_rests_38 (by decide) ?_
        refine j_sub [1, 2, 3, 0] rfl ?_
        exact m_X12_rests_b55 E  v0 v1 v2 x38 (0 : Int32) Z I31 L32 hZ hx kv0 h
    · have h := h.2 c35
      refine j_iconst E (v := -1) dX12_rests_23 (by decide) ?_
      exact j_ireturn E ⟨hx, hZ, _, rfl, h⟩ (Nat.zero_le _) (Nat.zero_le _) dX12_rests_24
set_option maxRecDepth 100000 in
def f_X12_returns (v0 : Nat) (v1 : Int32) (Z : jZ) (I : jI) (L : jL) (Q : Int32 → jI → jL → Prop) : Prop := (∀ I1 : jI, I1 = jpI I v0 22 (0 : Int32) → (f_X12_isOne v0 v1 Z I1 L (fun r7 I4 L5 => ((¬ r7 = 0 → (∀ b9 : Nat, jr Z v0 14 = some b9 → (vp_in v1 6 ∧ (∀ x11 : Int32, x11 = (I4 b9 v1.toNatClampNeg) → (∀ b12 : Nat, jr Z v0 14 = some b12 → (vp_in v1 6 ∧ (∀ I14 : jI, I14 = jpI I4 b12 v1.toNatClampNeg (-1 : Int32) → (∀ b15 : Nat, jr Z v0 15 = some b15 → (∀ b16 : Nat, jr Z v0 9 = some b16 → (vp_in v1 6 ∧ (vp_in v1 6 ∧ (∀ I19 : jI, I19 = jpI I14 b15 v1.toNatClampNeg (I14 b16 v1.toNatClampNeg) → Q x11 I19 L5)))))))))))) ∧ (r7 = 0 → Q (-1 : Int32) I4 L5)))))
set_option maxHeartbeats 4000000 in
set_option maxRecDepth 100000 in
theorem c_X12_returns (l : Launch) (D : va_G) (cy : jC) (v0 : Nat) (v1 : Int32) (Z : jZ) (I : jI) (L : jL) (Q : Int32 → jI → jL → Prop) (hZ : SH Z) (kv0 : jk Z v0 12) (h : f_X12_returns v0 v1 Z I L Q) : jCt l yX12_returns w_X12_returns { frames := 2, cells := 0, slots := 0, locals := 43 } D cy [.ref v0, .int v1] Z I L (rtI Z Q) := by
  refine jCt_of (cc := cX12_returns) (maxL := 3) (ret := (some .int)) (by decide +kernel) rfl (Nat.le_of_ble_eq_true rfl) ?_
  intro G eD eY eL E
  subst eD; subst eY; subst eL
  have E : jE G cX12_returns RX12 w_X12_returns 3 (some .int) { frames := 2, cells := 0, slots := 0, locals := 43 } (rtI Z Q) := E
  show jJ G 3 0 [(0, .ref v0), (1, .int v1)] [] Z I L 0 0
  refine j_aload_n E dX12_returns_0 0 rfl ?_
  refine j_iconst E (v := 0) dX12_returns_1 (by decide) ?_
  refine j_puti E 12 22 rfl rfl (by decide) (by decide) (iw iT_12) tyX12_ok nmX12 rfl rfl (tw W_674) rfl rfl rfl kv0 dX12_returns_2 ?_
  refine j_nmI (fun I1 eI1 => ?_)
  have h := h I1 eI1
  refine j_aload_n E dX12_returns_5 0 rfl ?_
  refine j_iload_n E dX12_returns_6 1 rfl ?_
  refine j_callV E [.int v1] [] (c_X12_isOne (gL G) (gD G) (gY G) v0 v1 Z I1 L _ hZ kv0 h) (gwV W_768 W_769 W_770 W_679 W_767) rfl ⟨rfl, fy_X12_isOne⟩ ⟨by decide, by decide⟩ (c := 12) rfl (by decide) kv0 rfl rfl (Nat.le_of_ble_eq_true rfl) ⟨Nat.zero_le _, Nat.zero_le _⟩ dX12_returns_7 (fun v2 Z3 I4 L5 q6 => ?_)
  obtain ⟨rfl, r7, rfl, zr7, h⟩ := q6
  show jJ G 3 10 [(0, .ref v0), (1, .int v1)] [.int r7] Z I4 L5 0 0
  refine j_if_ne E 15 dX12_returns_10 (by decide) (fun c8 => ?_) (fun c8 => ?_)
  · have h := h.1 c8
    refine j_aload_n E dX12_returns_15 0 rfl ?_
    obtain ⟨b9, eb9, kb9, lb9⟩ := sh_f hZ kv0 (j := 14) (k := 14) (m := 6) rfl
    have h := h b9 eb9
    refine j_getr E 12 14 rfl rfl (by decide) (by decide) (iw iT_12) rfl rfl (tw W_716) kv0 eb9 dX12_returns_16 ?_
    refine j_iload_n E dX12_returns_19 1 rfl ?_
    obtain ⟨o10, h⟩ := h
    refine j_iald E kb9 (by rw [lb9]; exact o10) dX12_returns_20 ?_
    refine j_topi (fun x11 ex11 => ?_)
    have h := h x11 ex11
    refine j_istore_n E 2 [(2, .int x11), (0, .ref v0), (1, .int v1)] dX12_returns_21 rfl (by decide) rfl ?_
    refine j_aload_n E dX12_returns_22 1 rfl ?_
    obtain ⟨b12, eb12, kb12, lb12⟩ := sh_f hZ kv0 (j := 14) (k := 14) (m := 6) rfl
    have h := h b12 eb12
    refine j_getr E 12 14 rfl rfl (by decide) (by decide) (iw iT_12) rfl rfl (tw W_716) kv0 eb12 dX12_returns_23 ?_
    refine j_iload_n E dX12_returns_26 2 rfl ?_
    refine j_iconst E (v := -1) dX12_returns_27 (by decide) ?_
    obtain ⟨o13, h⟩ := h
    refine j_iast E kb12 (by rw [lb12]; exact o13) dX12_returns_28 ?_
    refine j_nmI (fun I14 eI14 => ?_)
    have h := h I14 eI14
    refine j_aload_n E dX12_returns_29 1 rfl ?_
    obtain ⟨b15, eb15, kb15, lb15⟩ := sh_f hZ kv0 (j := 15) (k := 14) (m := 6) rfl
    have h := h b15 eb15
    refine j_getr E 12 15 rfl rfl (by decide) (by decide) (iw iT_12) rfl rfl (tw W_717) kv0 eb15 dX12_returns_30 ?_
    refine j_iload_n E dX12_returns_33 2 rfl ?_
    refine j_aload_n E dX12_returns_34 1 rfl ?_
    obtain ⟨b16, eb16, kb16, lb16⟩ := sh_f hZ kv0 (j := 9) (k := 14) (m := 6) rfl
    have h := h b16 eb16
    refine j_getr E 12 9 rfl rfl (by decide) (by decide) (iw iT_12) rfl rfl (tw W_718) kv0 eb16 dX12_returns_35 ?_
    refine j_iload_n E dX12_returns_38 2 rfl ?_
    obtain ⟨o17, h⟩ := h
    refine j_iald E kb16 (by rw [lb16]; exact o17) dX12_returns_39 ?_
    obtain ⟨o18, h⟩ := h
    refine j_iast E kb15 (by rw [lb15]; exact o18) dX12_returns_40 ?_
    refine j_nmI (fun I19 eI19 => ?_)
    have h := h I19 eI19
    refine j_iload_n E dX12_returns_41 0 rfl ?_
    exact j_ireturn E ⟨rfl, _, rfl, h⟩ (Nat.zero_le _) (Nat.zero_le _) dX12_returns_42
  · have h := h.2 c8
    refine j_iconst E (v := -1) dX12_returns_13 (by decide) ?_
    exact j_ireturn E ⟨rfl, _, rfl, h⟩ (Nat.zero_le _) (Nat.zero_le _) dX12_returns_14
set_option maxRecDepth 100000 in
def f_X12_earned_L18  (Z : jZ) (Q : Int32 → jI → jL → Prop) : Nat → Nat → Int32 → Int32 → Int32 → jI → jL → Prop
  | 0 => fun _ _ _ _ _ _ => False
  | n + 1 => fun v0 v1 v2 v3 I L => (((I v0 0) ≤ v3 → (∀ I2 : jI, I2 = jpI I v0 21 (0 : Int32) → (f_X12_tell v0 (v2.toInt64) Z I2 L (fun I5 L6 => (∀ b8 : Nat, jr Z v0 17 = some b8 → (vp_in v1 8 ∧ Q (I5 b8 v1.toNatClampNeg) I5 L6)))))) ∧ (¬ ((I v0 0) ≤ v3) → (∀ b10 : Nat, jr Z v0 5 = some b10 → (vp_in (((8 : Int32) * v3) + v1) 192 ∧ (∀ x12 : Int32, x12 = (v2 + (I b10 (((8 : Int32) * v3) + v1).toNatClampNeg)) → (∀ x13 : Int32, x13 = v3 + 1 → (f_X12_earned_L18 Z Q n) v0 v1 x12 x13 I L))))))
set_option maxHeartbeats 4000000 in
set_option maxRecDepth 100000 in
theorem m_X12_earned_L18 {G : jG} {Z : jZ} {Q : Int32 → jI → jL → Prop} (E : jE G cX12_earned RX12 w_X12_earned 4 (some .int) { frames := 2, cells := 0, slots := 0, locals := 42 } (rtI Z Q)) (hZ : SH Z)  : ∀ (n : Nat) (v0 : Nat) (v1 : Int32) (v2 : Int32) (v3 : Int32) (I : jI) (L : jL), jk Z v0 12 → f_X12_earned_L18  Z Q n v0 v1 v2 v3 I L → jJ G 4 18 [(0, .ref v0), (1, .int v1), (2, .int v2), (3, .int v3)] [] Z I L 0 0 := by
  intro n
  induction n with
  | zero => intro v0 v1 v2 v3 I L _ h; exact h.elim
  | succ n ih =>
    intro v0 v1 v2 v3 I L kv0 h
    have h : (((I v0 0) ≤ v3 → (∀ I2 : jI, I2 = jpI I v0 21 (0 : Int32) → (f_X12_tell v0 (v2.toInt64) Z I2 L (fun I5 L6 => (∀ b8 : Nat, jr Z v0 17 = some b8 → (vp_in v1 8 ∧ Q (I5 b8 v1.toNatClampNeg) I5 L6)))))) ∧ (¬ ((I v0 0) ≤ v3) → (∀ b10 : Nat, jr Z v0 5 = some b10 → (vp_in (((8 : Int32) * v3) + v1) 192 ∧ (∀ x12 : Int32, x12 = (v2 + (I b10 (((8 : Int32) * v3) + v1).toNatClampNeg)) → (∀ x13 : Int32, x13 = v3 + 1 → (f_X12_earned_L18 Z Q n) v0 v1 x12 x13 I L)))))) := h
    obtain ⟨K18, eK18⟩ : ∃ K : Nat → Int32 → Int32 → Int32 → jI → jL → Prop, K = f_X12_earned_L18  Z Q n := ⟨_, rfl⟩
    have hK18 := ih
    clear eK18 K18
    generalize f_X12_earned_L18  Z Q n = K18 at hK18 h
    refine j_iload_n E dX12_earned_18 3 rfl ?_
    refine j_aload_n E dX12_earned_19 0 rfl ?_
    refine j_geti E 12 0 rfl rfl (by decide) (by decide) (iw iT_12) rfl rfl (tw W_677) kv0 dX12_earned_20 ?_
    refine j_icmp_ge E 46 dX12_earned_23 (by decide) (fun c1 => ?_) (fun c1 => ?_)
    · have h := h.1 c1
      refine j_aload_n E dX12_earned_46 0 rfl ?_
      refine j_iconst E (v := 0) dX12_earned_47 (by decide) ?_
      refine j_puti E 12 21 rfl rfl (by decide) (by decide) (iw iT_12) tyX12_ok nmX12 rfl rfl (tw W_676) rfl rfl rfl kv0 dX12_earned_48 ?_
      refine j_nmI (fun I2 eI2 => ?_)
      have h := h I2 eI2
      refine j_aload_n E dX12_earned_51 0 rfl ?_
      refine j_iload_n E dX12_earned_52 2 rfl ?_
      refine j_i2l E dX12_earned_53 ?_
      refine j_callV E [.long (v2.toInt64)] [] (c_X12_tell (gL G) (gD G) (gY G) v0 (v2.toInt64) Z I2 L _ hZ kv0 h) (gwV W_784 W_785 W_786 W_679 W_783) rfl ⟨rfl, fy_X12_tell⟩ ⟨by decide, by decide⟩ (c := 12) rfl (by decide) kv0 rfl rfl (Nat.le_of_ble_eq_true rfl) ⟨Nat.zero_le _, Nat.zero_le _⟩ dX12_earned_54 (fun v3 Z4 I5 L6 q7 => ?_)
      obtain ⟨rfl, rfl, h⟩ := q7
      show jJ G 4 57 [(0, .ref v0), (1, .int v1), (2, .int v2), (3, .int v3)] [] Z I5 L6 0 0
      refine j_aload_n E dX12_earned_57 0 rfl ?_
      obtain ⟨b8, eb8, kb8, lb8⟩ := sh_f hZ kv0 (j := 17) (k := 14) (m := 8) rfl
      have h := h b8 eb8
      refine j_getr E 12 17 rfl rfl (by decide) (by decide) (iw iT_12) rfl rfl (tw W_721) kv0 eb8 dX12_earned_58 ?_
      refine j_iload_n E dX12_earned_61 1 rfl ?_
      obtain ⟨o9, h⟩ := h
      refine j_iald E kb8 (by rw [lb8]; exact o9) dX12_earned_62 ?_
      exact j_ireturn E ⟨rfl, _, rfl, h⟩ (Nat.zero_le _) (Nat.zero_le _) dX12_earned_63
    · have h := h.2 c1
      refine j_iload_n E dX12_earned_26 2 rfl ?_
      refine j_aload_n E dX12_earned_27 0 rfl ?_
      obtain ⟨b10, eb10, kb10, lb10⟩ := sh_f hZ kv0 (j := 5) (k := 14) (m := 192) rfl
      have h := h b10 eb10
      refine j_getr E 12 5 rfl rfl (by decide) (by decide) (iw iT_12) rfl rfl (tw W_683) kv0 eb10 dX12_earned_28 ?_
      refine j_bipush E (v := 8) dX12_earned_31 (by decide) ?_
      refine j_iload_n E dX12_earned_33 3 rfl ?_
      refine j_imul E dX12_earned_34 ?_
      refine j_iload_n E dX12_earned_35 1 rfl ?_
      refine j_iadd E dX12_earned_36 ?_
      obtain ⟨o11, h⟩ := h
      refine j_iald E kb10 (by rw [lb10]; exact o11) dX12_earned_37 ?_
      refine j_iadd E dX12_earned_38 ?_
      refine j_topi (fun x12 ex12 => ?_)
      have h := h x12 ex12
      refine j_istore_n E 2 [(2, .int x12), (0, .ref v0), (1, .int v1), (3, .int v3)] dX12_earned_39 rfl (by decide) rfl ?_
      obtain ⟨x13, ex13⟩ : ∃ y : Int32, y = v3 + 1 := ⟨_, rfl⟩
      have h := h x13 ex13
      refine j_iinc E x13 [(3, .int x13), (2, .int x12), (0, .ref v0), (1, .int v1)] dX12_earned_40 3 rfl (by rw [ex13]; rfl) (by decide) rfl ?_
      refine j_goto E 18 dX12_earned_43 (by decide) ?_
      refine j_sub [2, 3, 1, 0] rfl ?_
      exact hK18 v0 v1 x12 x13 I L kv0 h
set_option maxRecDepth 100000 in
def f_X12_earned (v0 : Nat) (v1 : Int32) (Z : jZ) (I : jI) (L : jL) (Q : Int32 → jI → jL → Prop) : Prop := (∀ I14 : jI, I14 = jpI I v0 22 (0 : Int32) → (f_X12_isFamily v1 Z I14 L (fun r20 I17 L18 => ((¬ r20 = 0 → (∃ m18 : Nat, f_X12_earned_L18  Z Q m18 v0 v1 (0 : Int32) (0 : Int32) I17 L18)) ∧ (r20 = 0 → Q (-1 : Int32) I17 L18)))))
set_option maxHeartbeats 4000000 in
set_option maxRecDepth 100000 in
theorem c_X12_earned (l : Launch) (D : va_G) (cy : jC) (v0 : Nat) (v1 : Int32) (Z : jZ) (I : jI) (L : jL) (Q : Int32 → jI → jL → Prop) (hZ : SH Z) (kv0 : jk Z v0 12) (h : f_X12_earned v0 v1 Z I L Q) : jCt l yX12_earned w_X12_earned { frames := 2, cells := 0, slots := 0, locals := 42 } D cy [.ref v0, .int v1] Z I L (rtI Z Q) := by
  refine jCt_of (cc := cX12_earned) (maxL := 4) (ret := (some .int)) (by decide +kernel) rfl (Nat.le_of_ble_eq_true rfl) ?_
  intro G eD eY eL E
  subst eD; subst eY; subst eL
  have E : jE G cX12_earned RX12 w_X12_earned 4 (some .int) { frames := 2, cells := 0, slots := 0, locals := 42 } (rtI Z Q) := E
  show jJ G 4 0 [(0, .ref v0), (1, .int v1)] [] Z I L 0 0
  refine j_aload_n E dX12_earned_0 0 rfl ?_
  refine j_iconst E (v := 0) dX12_earned_1 (by decide) ?_
  refine j_puti E 12 22 rfl rfl (by decide) (by decide) (iw iT_12) tyX12_ok nmX12 rfl rfl (tw W_674) rfl rfl rfl kv0 dX12_earned_2 ?_
  refine j_nmI (fun I14 eI14 => ?_)
  have h := h I14 eI14
  refine j_iload_n E dX12_earned_5 1 rfl ?_
  refine j_callS E [.int v1] [] (c_X12_isFamily (gL G) (gD G) (gY G) v1 Z I14 L _ hZ  h) (gwS W_758 W_759 W_679 W_757) rfl fy_X12_isFamily ⟨by decide, by decide⟩ rfl rfl (Nat.le_of_ble_eq_true rfl) ⟨Nat.zero_le _, Nat.zero_le _⟩ dX12_earned_6 (fun v15 Z16 I17 L18 q19 => ?_)
  obtain ⟨rfl, r20, rfl, zr20, h⟩ := q19
  show jJ G 4 9 [(0, .ref v0), (1, .int v1)] [.int r20] Z I17 L18 0 0
  refine j_if_ne E 14 dX12_earned_9 (by decide) (fun c21 => ?_) (fun c21 => ?_)
  · have h := h.1 c21
    refine j_iconst E (v := 0) dX12_earned_14 (by decide) ?_
    refine j_istore_n E 2 [(2, .int (0 : Int32)), (0, .ref v0), (1, .int v1)] dX12_earned_15 rfl (by decide) rfl ?_
    refine j_iconst E (v := 0) dX12_earned_16 (by decide) ?_
    refine j_istore_n E 3 [(3, .int (0 : Int32)), (2, .int (0 : Int32)), (0, .ref v0), (1, .int v1)] dX12_earned_17 rfl (by decide) rfl ?_
    obtain ⟨n22, h⟩ := h
    refine j_sub [2, 3, 1, 0] rfl ?_
    exact m_X12_earned_L18 E hZ  n22 v0 v1 (0 : Int32) (0 : Int32) I17 L18 kv0 h
  · have h := h.2 c21
    refine j_iconst E (v := -1) dX12_earned_12 (by decide) ?_
    exact j_ireturn E ⟨rfl, _, rfl, h⟩ (Nat.zero_le _) (Nat.zero_le _) dX12_earned_13
set_option maxRecDepth 100000 in
def f_X12_layMoves_b122 (K2 : Nat → Int32 → Int32 → jZ → jI → jL → Prop) (K12 : Nat → Int32 → Int32 → Int32 → jZ → jI → jL → Prop) (Q : jZ → jI → jL → Prop) (v0 : Nat) (v1 : Int32) (v2 : Int32) (v3 : Int32) (Z : jZ) (I : jI) (L : jL) : Prop := (∀ x1 : Int32, x1 = v3 + 1 → K12 v0 v1 v2 x1 Z I L)
set_option maxHeartbeats 4000000 in
set_option maxRecDepth 100000 in
theorem m_X12_layMoves_b122 {G : jG} {Z0 : jZ} {Q : jZ → jI → jL → Prop} (E : jE G cX12_layMoves RX12 w_X12_layMoves 6 none { frames := 3, cells := 0, slots := 0, locals := 74 } (xrtV Z0 Q)) (K2 : Nat → Int32 → Int32 → jZ → jI → jL → Prop) (hK2 : ∀ (v0 : Nat) (v1 : Int32) (v2 : Int32) (Z : jZ) (I : jI) (L : jL), SH Z → jext Z0 Z → jk Z v0 12 → K2 v0 v1 v2 Z I L → jJ G 6 2 [(0, .ref v0), (1, .int v1), (2, .int v2)] [] Z I L 0 0) (K12 : Nat → Int32 → Int32 → Int32 → jZ → jI → jL → Prop) (hK12 : ∀ (v0 : Nat) (v1 : Int32) (v2 : Int32) (v3 : Int32) (Z : jZ) (I : jI) (L : jL), SH Z → jext Z0 Z → jk Z v0 12 → K12 v0 v1 v2 v3 Z I L → jJ G 6 12 [(0, .ref v0), (1, .int v1), (2, .int v2), (3, .int v3)] [] Z I L 0 0) (v0 : Nat) (v1 : Int32) (v2 : Int32) (v3 : Int32) (Z : jZ) (I : jI) (L : jL) (hZ : SH Z) (hx : jext Z0 Z) (kv0 : jk Z v0 12) (h : f_X12_layMoves_b122 K2 K12 Q v0 v1 v2 v3 Z I L) : jJ G 6 122 [(0, .ref v0), (1, .int v1), (2, .int v2), (3, .int v3)] [] Z I L 0 0 := by
  obtain ⟨x1, ex1⟩ : ∃ y : Int32, y = v3 + 1 := ⟨_, rfl⟩
  have h := h x1 ex1
  refine j_iinc E x1 [(3, .int x1), (0, .ref v0), (1, .int v1), (2, .int v2)] dX12_layMoves_122 3 rfl (by rw [ex1]; rfl) (by decide) rfl ?_
  refine j_goto E 12 dX12_layMoves_125 (by decide) ?_
  refine j_sub [1, 2, 3, 0] rfl ?_
  exact hK12 v0 v1 v2 x1 Z I L hZ hx kv0 h
set_option maxRecDepth 100000 in
def f_X12_layMoves_L12 (K2 : Nat → Int32 → Int32 → jZ → jI → jL → Prop) (Q : jZ → jI → jL → Prop) : Nat → Nat → Int32 → Int32 → Int32 → jZ → jI → jL → Prop
  | 0 => fun _ _ _ _ _ _ _ => False
  | n + 1 => fun v0 v1 v2 v3 Z I L => (((3 : Int32) < v3 → (∀ x3 : Int32, x3 = v2 + 1 → K2 v0 v1 x3 Z I L)) ∧ (¬ ((3 : Int32) < v3) → (∀ x4 : Int32, x4 = ((((3 : Int32) * (v2 + (1 : Int32))) + v3) - (1 : Int32)) → (∀ x5 : Int32, x5 = (v2 + v3) → (∀ b6 : Nat, jr Z v0 37 = some b6 → (vp_in x4 75 ∧ (∀ I8 : jI, I8 = jpI I b6 x4.toNatClampNeg (1000000000 : Int32) → (∀ b9 : Nat, jr Z v0 11 = some b9 → (vp_in v1 6 ∧ (((I8 b9 v1.toNatClampNeg) < v3 → f_X12_layMoves_b122 K2 (f_X12_layMoves_L12 K2 Q n) Q v0 v1 v2 v3 Z I8 L) ∧ (¬ ((I8 b9 v1.toNatClampNeg) < v3) → (((I8 v0 0) ≤ x5 → f_X12_layMoves_b122 K2 (f_X12_layMoves_L12 K2 Q n) Q v0 v1 v2 v3 Z I8 L) ∧ (¬ ((I8 v0 0) ≤ x5) → ((x5 = (I8 v0 39) → f_X12_layMoves_b122 K2 (f_X12_layMoves_L12 K2 Q n) Q v0 v1 v2 v3 Z I8 L) ∧ (¬ (x5 = (I8 v0 39)) → (∀ b14 : Nat, jr Z v0 13 = some b14 → (vp_in v1 6 ∧ (f_X12_mainOf v0 x5 Z I8 L (fun r21 I18 L19 => (f_X12_has (I8 b14 v1.toNatClampNeg) r21 Z I18 L19 (fun r27 I24 L25 => ((r27 = 0 → (∀ b29 : Nat, jr Z v0 37 = some b29 → (f_X12_costOf v0 v1 v2 x5 Z I24 L25 (fun r35 Z31 I32 L33 => (vp_in x4 75 ∧ (∀ I40 : jI, I40 = jpI I32 b29 x4.toNatClampNeg r35 → (∀ b41 : Nat, jr Z31 v0 38 = some b41 → (f_X12_effortOf v0 v1 v2 x5 Z31 I40 L33 (fun r47 I44 L45 => (vp_in x4 75 ∧ (∀ I49 : jI, I49 = jpI I44 b41 x4.toNatClampNeg r47 → f_X12_layMoves_b122 K2 (f_X12_layMoves_L12 K2 Q n) Q v0 v1 v2 v3 Z31 I49 L45))))))))))) ∧ (¬ (r27 = 0) → f_X12_layMoves_b122 K2 (f_X12_layMoves_L12 K2 Q n) Q v0 v1 v2 v3 Z I24 L25)))))))))))))))))))))))
set_option maxHeartbeats 4000000 in
set_option maxRecDepth 100000 in
theorem m_X12_layMoves_L12 {G : jG} {Z0 : jZ} {Q : jZ → jI → jL → Prop} (E : jE G cX12_layMoves RX12 w_X12_layMoves 6 none { frames := 3, cells := 0, slots := 0, locals := 74 } (xrtV Z0 Q)) (K2 : Nat → Int32 → Int32 → jZ → jI → jL → Prop) (hK2 : ∀ (v0 : Nat) (v1 : Int32) (v2 : Int32) (Z : jZ) (I : jI) (L : jL), SH Z → jext Z0 Z → jk Z v0 12 → K2 v0 v1 v2 Z I L → jJ G 6 2 [(0, .ref v0), (1, .int v1), (2, .int v2)] [] Z I L 0 0) : ∀ (n : Nat) (v0 : Nat) (v1 : Int32) (v2 : Int32) (v3 : Int32) (Z : jZ) (I : jI) (L : jL), SH Z → jext Z0 Z → jk Z v0 12 → f_X12_layMoves_L12 K2 Q n v0 v1 v2 v3 Z I L → jJ G 6 12 [(0, .ref v0), (1, .int v1), (2, .int v2), (3, .int v3)] [] Z I L 0 0 := by
  intro n
  induction n with
  | zero => intro v0 v1 v2 v3 Z I L _ _ _ h; exact h.elim
  | succ n ih =>
    intro v0 v1 v2 v3 Z I L hZ hx kv0 h
    have h : (((3 : Int32) < v3 → (∀ x3 : Int32, x3 = v2 + 1 → K2 v0 v1 x3 Z I L)) ∧ (¬ ((3 : Int32) < v3) → (∀ x4 : Int32, x4 = ((((3 : Int32) * (v2 + (1 : Int32))) + v3) - (1 : Int32)) → (∀ x5 : Int32, x5 = (v2 + v3) → (∀ b6 : Nat, jr Z v0 37 = some b6 → (vp_in x4 75 ∧ (∀ I8 : jI, I8 = jpI I b6 x4.toNatClampNeg (1000000000 : Int32) → (∀ b9 : Nat, jr Z v0 11 = some b9 → (vp_in v1 6 ∧ (((I8 b9 v1.toNatClampNeg) < v3 → f_X12_layMoves_b122 K2 (f_X12_layMoves_L12 K2 Q n) Q v0 v1 v2 v3 Z I8 L) ∧ (¬ ((I8 b9 v1.toNatClampNeg) < v3) → (((I8 v0 0) ≤ x5 → f_X12_layMoves_b122 K2 (f_X12_layMoves_L12 K2 Q n) Q v0 v1 v2 v3 Z I8 L) ∧ (¬ ((I8 v0 0) ≤ x5) → ((x5 = (I8 v0 39) → f_X12_layMoves_b122 K2 (f_X12_layMoves_L12 K2 Q n) Q v0 v1 v2 v3 Z I8 L) ∧ (¬ (x5 = (I8 v0 39)) → (∀ b14 : Nat, jr Z v0 13 = some b14 → (vp_in v1 6 ∧ (f_X12_mainOf v0 x5 Z I8 L (fun r21 I18 L19 => (f_X12_has (I8 b14 v1.toNatClampNeg) r21 Z I18 L19 (fun r27 I24 L25 => ((r27 = 0 → (∀ b29 : Nat, jr Z v0 37 = some b29 → (f_X12_costOf v0 v1 v2 x5 Z I24 L25 (fun r35 Z31 I32 L33 => (vp_in x4 75 ∧ (∀ I40 : jI, I40 = jpI I32 b29 x4.toNatClampNeg r35 → (∀ b41 : Nat, jr Z31 v0 38 = some b41 → (f_X12_effortOf v0 v1 v2 x5 Z31 I40 L33 (fun r47 I44 L45 => (vp_in x4 75 ∧ (∀ I49 : jI, I49 = jpI I44 b41 x4.toNatClampNeg r47 → f_X12_layMoves_b122 K2 (f_X12_layMoves_L12 K2 Q n) Q v0 v1 v2 v3 Z31 I49 L45))))))))))) ∧ (¬ (r27 = 0) → f_X12_layMoves_b122 K2 (f_X12_layMoves_L12 K2 Q n) Q v0 v1 v2 v3 Z I24 L25))))))))))))))))))))))) := h
    obtain ⟨K12, eK12⟩ : ∃ K : Nat → Int32 → Int32 → Int32 → jZ → jI → jL → Prop, K = f_X12_layMoves_L12 K2 Q n := ⟨_, rfl⟩
    have hK12 := ih
    clear eK12 K12
    generalize f_X12_layMoves_L12 K2 Q n = K12 at hK12 h
    refine j_iload_n E dX12_layMoves_12 3 rfl ?_
    refine j_iconst E (v := 3) dX12_layMoves_13 (by decide) ?_
    refine j_icmp_gt E 128 dX12_layMoves_14 (by decide) (fun c2 => ?_) (fun c2 => ?_)
    · have h := h.1 c2
      obtain ⟨x3, ex3⟩ : ∃ y : Int32, y = v2 + 1 := ⟨_, rfl⟩
      have h := h x3 ex3
      refine j_iinc E x3 [(2, .int x3), (0, .ref v0), (1, .int v1), (3, .int v3)] dX12_layMoves_128 2 rfl (by rw [ex3]; rfl) (by decide) rfl ?_
      refine j_goto E 2 dX12_layMoves_131 (by decide) ?_
      refine j_sub [1, 2, 0] rfl ?_
      exact hK2 v0 v1 x3 Z I L hZ hx kv0 h
    · have h := h.2 c2
      refine j_iconst E (v := 3) dX12_layMoves_17 (by decide) ?_
      refine j_iload_n E dX12_layMoves_18 2 rfl ?_
      refine j_iconst E (v := 1) dX12_layMoves_19 (by decide) ?_
      refine j_iadd E dX12_layMoves_20 ?_
      refine j_imul E dX12_layMoves_21 ?_
      refine j_iload_n E dX12_layMoves_22 3 rfl ?_
      refine j_iadd E dX12_layMoves_23 ?_
      refine j_iconst E (v := 1) dX12_layMoves_24 (by decide) ?_
      refine j_isub E dX12_layMoves_25 ?_
      refine j_topi (fun x4 ex4 => ?_)
      have h := h x4 ex4
      refine j_istore E 4 [(4, .int x4), (0, .ref v0), (1, .int v1), (2, .int v2), (3, .int v3)] dX12_layMoves_26 (by decide) rfl ?_
      refine j_iload_n E dX12_layMoves_28 3 rfl ?_
      refine j_iload_n E dX12_layMoves_29 4 rfl ?_
      refine j_iadd E dX12_layMoves_30 ?_
      refine j_topi (fun x5 ex5 => ?_)
      have h := h x5 ex5
      refine j_istore E 5 [(5, .int x5), (4, .int x4), (0, .ref v0), (1, .int v1), (2, .int v2), (3, .int v3)] dX12_layMoves_31 (by decide) rfl ?_
      refine j_aload_n E dX12_layMoves_33 2 rfl ?_
      obtain ⟨b6, eb6, kb6, lb6⟩ := sh_f hZ kv0 (j := 37) (k := 14) (m := 75) rfl
      have h := h b6 eb6
      refine j_getr E 12 37 rfl rfl (by decide) (by decide) (iw iT_12) rfl rfl (tw W_806) kv0 eb6 dX12_layMoves_34 ?_
      refine j_iload E dX12_layMoves_37 1 rfl ?_
      refine j_ldcw E (tw W_807) dX12_layMoves_39 ?_
      obtain ⟨o7, h⟩ := h
      refine j_iast E kb6 (by rw [lb6]; exact o7) dX12_layMoves_42 ?_
      refine j_nmI (fun I8 eI8 => ?_)
      have h := h I8 eI8
      refine j_iload_n E dX12_layMoves_43 5 rfl ?_
      refine j_aload_n E dX12_layMoves_44 2 rfl ?_
      obtain ⟨b9, eb9, kb9, lb9⟩ := sh_f hZ kv0 (j := 11) (k := 14) (m := 6) rfl
      have h := h b9 eb9
      refine j_getr E 12 11 rfl rfl (by decide) (by decide) (iw iT_12) rfl rfl (tw W_764) kv0 eb9 dX12_layMoves_45 ?_
      refine j_iload_n E dX12_layMoves_48 3 rfl ?_
      obtain ⟨o10, h⟩ := h
      refine j_iald E kb9 (by rw [lb9]; exact o10) dX12_layMoves_49 ?_
      refine j_icmp_gt E 122 dX12_layMoves_50 (by decide) (fun c11 => ?_) (fun c11 => ?_)
      · have h := h.1 c11
        refine j_sub [2, 3, 4, 5] rfl ?_
        exact m_X12_layMoves_b122 E K2 hK2 K12 hK12 v0 v1 v2 v3 Z I8 L hZ hx kv0 h
      · have h := h.2 c11
        refine j_iload E dX12_layMoves_53 0 rfl ?_
        refine j_aload_n E dX12_layMoves_55 2 rfl ?_
        refine j_geti E 12 0 rfl rfl (by decide) (by decide) (iw iT_12) rfl rfl (tw W_677) kv0 dX12_layMoves_56 ?_
        refine j_icmp_ge E 122 dX12_layMoves_59 (by decide) (fun c12 => ?_) (fun c12 => ?_)
        · have h := h.1 c12
          refine j_sub [2, 3, 4, 5] rfl ?_
          exact m_X12_layMoves_b122 E K2 hK2 K12 hK12 v0 v1 v2 v3 Z I8 L hZ hx kv0 h
        · have h := h.2 c12
          refine j_iload E dX12_layMoves_62 0 rfl ?_
          refine j_aload_n E dX12_layMoves_64 2 rfl ?_
          refine j_geti E 12 39 rfl rfl (by decide) (by decide) (iw iT_12) rfl rfl (tw W_808) kv0 dX12_layMoves_65 ?_
          refine j_icmp_eq E 122 dX12_layMoves_68 (by decide) (fun c13 => ?_) (fun c13 => ?_)
          · have h := h.1 c13
            refine j_sub [2, 3, 4, 5] rfl ?_
            exact m_X12_layMoves_b122 E K2 hK2 K12 hK12 v0 v1 v2 v3 Z I8 L hZ hx kv0 h
          · have h := h.2 c13
            refine j_aload_n E dX12_layMoves_71 2 rfl ?_
            obtain ⟨b14, eb14, kb14, lb14⟩ := sh_f hZ kv0 (j := 13) (k := 14) (m := 6) rfl
            have h := h b14 eb14
            refine j_getr E 12 13 rfl rfl (by decide) (by decide) (iw iT_12) rfl rfl (tw W_766) kv0 eb14 dX12_layMoves_72 ?_
            refine j_iload_n E dX12_layMoves_75 3 rfl ?_
            obtain ⟨o15, h⟩ := h
            refine j_iald E kb14 (by rw [lb14]; exact o15) dX12_layMoves_76 ?_
            refine j_aload_n E dX12_layMoves_77 2 rfl ?_
            refine j_iload E dX12_layMoves_78 0 rfl ?_
            refine j_callV E [.int x5] [.int (I8 b14 v1.toNatClampNeg)] (c_X12_mainOf (gL G) (gD G) (gY G) v0 x5 Z I8 L _ hZ kv0 h) (gwV W_741 W_742 W_743 W_679 W_740) rfl ⟨rfl, fy_X12_mainOf⟩ ⟨by decide, by decide⟩ (c := 12) rfl (by decide) kv0 rfl rfl (Nat.le_of_ble_eq_true rfl) ⟨Nat.zero_le _, Nat.zero_le _⟩ dX12_layMoves_80 (fun v16 Z17 I18 L19 q20 => ?_)
            obtain ⟨rfl, r21, rfl, h⟩ := q20
            show jJ G 6 83 [(5, .int x5), (4, .int x4), (0, .ref v0), (1, .int v1), (2, .int v2), (3, .int v3)] [.int r21, .int (I8 b14 v1.toNatClampNeg)] Z I18 L19 0 0
            refine j_callS E [.int (I8 b14 v1.toNatClampNeg), .int r21] [] (c_X12_has (gL G) (gD G) (gY G) (I8 b14 v1.toNatClampNeg) r21 Z I18 L19 _ hZ  h) (gwS W_804 W_805 W_679 W_803) rfl fy_X12_has ⟨by decide, by decide⟩ rfl rfl (Nat.le_of_ble_eq_true rfl) ⟨Nat.zero_le _, Nat.zero_le _⟩ dX12_layMoves_83 (fun v22 Z23 I24 L25 q26 => ?_)
            obtain ⟨rfl, r27, rfl, zr27, h⟩ := q26
            show jJ G 6 86 [(5, .int x5), (4, .int x4), (0, .ref v0), (1, .int v1), (2, .int v2), (3, .int v3)] [.int r27] Z I24 L25 0 0
            refine j_if_eq E 92 dX12_layMoves_86 (by decide) (fun c28 => ?_) (fun c28 => ?_)
            · have h := h.1 c28
              refine j_aload_n E dX12_layMoves_92 2 rfl ?_
              obtain ⟨b29, eb29, kb29, lb29⟩ := sh_f hZ kv0 (j := 37) (k := 14) (m := 75) rfl
              have h := h b29 eb29
              refine j_getr E 12 37 rfl rfl (by decide) (by decide) (iw iT_12) rfl rfl (tw W_806) kv0 eb29 dX12_layMoves_93 ?_
              refine j_iload E dX12_layMoves_96 1 rfl ?_
              refine j_aload_n E dX12_layMoves_98 2 rfl ?_
              refine j_iload_n E dX12_layMoves_99 3 rfl ?_
              refine j_iload_n E dX12_layMoves_100 4 rfl ?_
              refine j_iload E dX12_layMoves_101 0 rfl ?_
              refine j_callV E [.int v1, .int v2, .int x5] [.int x4, .ref b29] (c_X12_costOf (gL G) (gD G) (gY G) v0 v1 v2 x5 Z I24 L25 _ hZ kv0 h) (gwV W_788 W_789 W_790 W_679 W_787) rfl ⟨rfl, fy_X12_costOf⟩ ⟨by decide, by decide⟩ (c := 12) rfl (by decide) kv0 rfl rfl (Nat.le_of_ble_eq_true rfl) ⟨Nat.zero_le _, Nat.zero_le _⟩ dX12_layMoves_103 (fun v30 Z31 I32 L33 q34 => ?_)
              obtain ⟨yZ31, hZ31, r35, rfl, h⟩ := q34
              have hZ := hZ31
              have hx : jext Z0 Z31 := jext_trans hx yZ31
              have k36 := (yZ31 _ _ kv0).1
              have k37 := (yZ31 _ _ kb29).1
              have l38 := (yZ31 _ _ kb29).2.trans lb29
              show jJ G 6 106 [(5, .int x5), (4, .int x4), (0, .ref v0), (1, .int v1), (2, .int v2), (3, .int v3)] [.int r35, .int x4, .ref b29] Z31 I32 L33 0 0
              obtain ⟨o39, h⟩ := h
              refine j_iast E k37 (by rw [l38]; exact o39) dX12_layMoves_106 ?_
              refine j_nmI (fun I40 eI40 => ?_)
              have h := h I40 eI40
              refine j_aload_n E dX12_layMoves_107 2 rfl ?_
              obtain ⟨b41, eb41, kb41, lb41⟩ := sh_f hZ k36 (j := 38) (k := 14) (m := 75) rfl
              have h := h b41 eb41
              refine j_getr E 12 38 rfl rfl (by decide) (by decide) (iw iT_12) rfl rfl (tw W_809) k36 eb41 dX12_layMoves_108 ?_
              refine j_iload E dX12_layMoves_111 1 rfl ?_
              refine j_aload_n E dX12_layMoves_113 2 rfl ?_
              refine j_iload_n E dX12_layMoves_114 3 rfl ?_
              refine j_iload_n E dX12_layMoves_115 4 rfl ?_
              refine j_iload E dX12_layMoves_116 0 rfl ?_
              refine j_callV E [.int v1, .int v2, .int x5] [.int x4, .ref b41] (c_X12_effortOf (gL G) (gD G) (gY G) v0 v1 v2 x5 Z31 I40 L33 _ hZ k36 h) (gwV W_780 W_781 W_782 W_679 W_779) rfl ⟨rfl, fy_X12_effortOf⟩ ⟨by decide, by decide⟩ (c := 12) rfl (by decide) k36 rfl rfl (Nat.le_of_ble_eq_true rfl) ⟨Nat.zero_le _, Nat.zero_le _⟩ dX12_layMoves_118 (fun v42 Z43 I44 L45 q46 => ?_)
              obtain ⟨rfl, r47, rfl, h⟩ := q46
              show jJ G 6 121 [(5, .int x5), (4, .int x4), (0, .ref v0), (1, .int v1), (2, .int v2), (3, .int v3)] [.int r47, .int x4, .ref b41] Z31 I44 L45 0 0
              obtain ⟨o48, h⟩ := h
              refine j_iast E kb41 (by rw [lb41]; exact o48) dX12_layMoves_121 ?_
              refine j_nmI (fun I49 eI49 => ?_)
              have h := h I49 eI49
              refine j_sub [2, 3, 4, 5] rfl ?_
              exact m_X12_layMoves_b122 E K2 hK2 K12 hK12 v0 v1 v2 v3 Z31 I49 L45 hZ hx k36 h
            · have h := h.2 c28
              refine j_goto E 122 dX12_layMoves_89 (by decide) ?_
              refine j_sub [2, 3, 4, 5] rfl ?_
              exact m_X12_layMoves_b122 E K2 hK2 K12 hK12 v0 v1 v2 v3 Z I24 L25 hZ hx kv0 h
set_option maxRecDepth 100000 in
def f_X12_layMoves_L2  (Q : jZ → jI → jL → Prop) : Nat → Nat → Int32 → Int32 → jZ → jI → jL → Prop
  | 0 => fun _ _ _ _ _ _ => False
  | n + 1 => fun v0 v1 v2 Z I L => (((I v0 0) ≤ v2 → Q Z I L) ∧ (¬ ((I v0 0) ≤ v2) → (∃ m12 : Nat, f_X12_layMoves_L12 (f_X12_layMoves_L2 Q n) Q m12 v0 v1 v2 (1 : Int32) Z I L)))
set_option maxHeartbeats 4000000 in
set_option maxRecDepth 100000 in
theorem m_X12_layMoves_L2 {G : jG} {Z0 : jZ} {Q : jZ → jI → jL → Prop} (E : jE G cX12_layMoves RX12 w_X12_layMoves 6 none { frames := 3, cells := 0, slots := 0, locals := 74 } (xrtV Z0 Q))  : ∀ (n : Nat) (v0 : Nat) (v1 : Int32) (v2 : Int32) (Z : jZ) (I : jI) (L : jL), SH Z → jext Z0 Z → jk Z v0 12 → f_X12_layMoves_L2  Q n v0 v1 v2 Z I L → jJ G 6 2 [(0, .ref v0), (1, .int v1), (2, .int v2)] [] Z I L 0 0 := by
  intro n
  induction n with
  | zero => intro v0 v1 v2 Z I L _ _ _ h; exact h.elim
  | succ n ih =>
    intro v0 v1 v2 Z I L hZ hx kv0 h
    have h : (((I v0 0) ≤ v2 → Q Z I L) ∧ (¬ ((I v0 0) ≤ v2) → (∃ m12 : Nat, f_X12_layMoves_L12 (f_X12_layMoves_L2 Q n) Q m12 v0 v1 v2 (1 : Int32) Z I L))) := h
    obtain ⟨K2, eK2⟩ : ∃ K : Nat → Int32 → Int32 → jZ → jI → jL → Prop, K = f_X12_layMoves_L2  Q n := ⟨_, rfl⟩
    have hK2 := ih
    clear eK2 K2
    generalize f_X12_layMoves_L2  Q n = K2 at hK2 h
    refine j_iload_n E dX12_layMoves_2 2 rfl ?_
    refine j_aload_n E dX12_layMoves_3 0 rfl ?_
    refine j_geti E 12 0 rfl rfl (by decide) (by decide) (iw iT_12) rfl rfl (tw W_677) kv0 dX12_layMoves_4 ?_
    refine j_icmp_ge E 134 dX12_layMoves_7 (by decide) (fun c50 => ?_) (fun c50 => ?_)
    · have h := h.1 c50
      exact j_return E ⟨hx, hZ, rfl, h⟩ (Nat.zero_le _) (Nat.zero_le _) dX12_layMoves_134
    · have h := h.2 c50
      refine j_iconst E (v := 1) dX12_layMoves_10 (by decide) ?_
      refine j_istore_n E 3 [(3, .int (1 : Int32)), (0, .ref v0), (1, .int v1), (2, .int v2)] dX12_layMoves_11 rfl (by decide) rfl ?_
      obtain ⟨n51, h⟩ := h
      refine j_sub [1, 2, 3, 0] rfl ?_
      exact m_X12_layMoves_L12 E K2 hK2 n51 v0 v1 v2 (1 : Int32) Z I L hZ hx kv0 h
set_option maxRecDepth 100000 in
def f_X12_layMoves (v0 : Nat) (v1 : Int32) (Z : jZ) (I : jI) (L : jL) (Q : jZ → jI → jL → Prop) : Prop := (∃ m2 : Nat, f_X12_layMoves_L2  Q m2 v0 v1 (-1 : Int32) Z I L)
set_option maxHeartbeats 4000000 in
set_option maxRecDepth 100000 in
theorem c_X12_layMoves (l : Launch) (D : va_G) (cy : jC) (v0 : Nat) (v1 : Int32) (Z : jZ) (I : jI) (L : jL) (Q : jZ → jI → jL → Prop) (hZ : SH Z) (kv0 : jk Z v0 12) (h : f_X12_layMoves v0 v1 Z I L Q) : jCt l yX12_layMoves w_X12_layMoves { frames := 3, cells := 0, slots := 0, locals := 74 } D cy [.ref v0, .int v1] Z I L (xrtV Z Q) := by
  refine jCt_of (cc := cX12_layMoves) (maxL := 6) (ret := none) (by decide +kernel) rfl (Nat.le_of_ble_eq_true rfl) ?_
  intro G eD eY eL E
  subst eD; subst eY; subst eL
  have E : jE G cX12_layMoves RX12 w_X12_layMoves 6 none { frames := 3, cells := 0, slots := 0, locals := 74 } (xrtV Z Q) := E
  have hx : jext Z Z := jext_rfl
  show jJ G 6 0 [(0, .ref v0), (1, .int v1)] [] Z I L 0 0
  refine j_iconst E (v := -1) dX12_layMoves_0 (by decide) ?_
  refine j_istore_n E 2 [(2, .int (-1 : Int32)), (0, .ref v0), (1, .int v1)] dX12_layMoves_1 rfl (by decide) rfl ?_
  obtain ⟨n52, h⟩ := h
  refine j_sub [1, 2, 0] rfl ?_
  exact m_X12_layMoves_L2 E  n52 v0 v1 (-1 : Int32) Z I L hZ hx kv0 h
set_option maxRecDepth 100000 in
def f_X12_findByEffort_b147 (K7 : Nat → Int32 → Int32 → jI → jL → Prop) (K14 : Nat → Int32 → Int32 → Int32 → jI → jL → Prop) (K45 : Nat → Int32 → Int32 → Int32 → Int32 → Int32 → jI → jL → Prop) (Z : jZ) (Q : jI → jL → Prop) (v0 : Nat) (v1 : Int32) (v2 : Int32) (v3 : Int32) (v4 : Int32) (v5 : Int32) (I : jI) (L : jL) : Prop := (∀ x1 : Int32, x1 = v5 + 1 → K45 v0 v1 v2 v3 v4 x1 I L)
set_option maxHeartbeats 4000000 in
set_option maxRecDepth 100000 in
theorem m_X12_findByEffort_b147 {G : jG} {Z : jZ} {Q : jI → jL → Prop} (E : jE G cX12_findByEffort RX12 w_X12_findByEffort 8 none { frames := 1, cells := 0, slots := 0, locals := 23 } (rtV Z Q)) (hZ : SH Z) (K7 : Nat → Int32 → Int32 → jI → jL → Prop) (hK7 : ∀ (v0 : Nat) (v1 : Int32) (v2 : Int32) (I : jI) (L : jL), jk Z v0 12 → K7 v0 v1 v2 I L → jJ G 8 7 [(0, .ref v0), (1, .int v1), (2, .int v2)] [] Z I L 0 0) (K14 : Nat → Int32 → Int32 → Int32 → jI → jL → Prop) (hK14 : ∀ (v0 : Nat) (v1 : Int32) (v2 : Int32) (v3 : Int32) (I : jI) (L : jL), jk Z v0 12 → K14 v0 v1 v2 v3 I L → jJ G 8 14 [(0, .ref v0), (1, .int v1), (2, .int v2), (3, .int v3)] [] Z I L 0 0) (K45 : Nat → Int32 → Int32 → Int32 → Int32 → Int32 → jI → jL → Prop) (hK45 : ∀ (v0 : Nat) (v1 : Int32) (v2 : Int32) (v3 : Int32) (v4 : Int32) (v5 : Int32) (I : jI) (L : jL), jk Z v0 12 → K45 v0 v1 v2 v3 v4 v5 I L → jJ G 8 45 [(0, .ref v0), (1, .int v1), (2, .int v2), (3, .int v3), (4, .int v4), (5, .int v5)] [] Z I L 0 0) (v0 : Nat) (v1 : Int32) (v2 : Int32) (v3 : Int32) (v4 : Int32) (v5 : Int32) (I : jI) (L : jL) (kv0 : jk Z v0 12) (h : f_X12_findByEffort_b147 K7 K14 K45 Z Q v0 v1 v2 v3 v4 v5 I L) : jJ G 8 147 [(0, .ref v0), (1, .int v1), (2, .int v2), (3, .int v3), (4, .int v4), (5, .int v5)] [] Z I L 0 0 := by
  obtain ⟨x1, ex1⟩ : ∃ y : Int32, y = v5 + 1 := ⟨_, rfl⟩
  have h := h x1 ex1
  refine j_iinc E x1 [(5, .int x1), (0, .ref v0), (1, .int v1), (2, .int v2), (3, .int v3), (4, .int v4)] dX12_findByEffort_147 5 rfl (by rw [ex1]; rfl) (by decide) rfl ?_
  refine j_goto E 45 dX12_findByEffort_150 (by decide) ?_
  refine j_sub [1, 2, 3, 4, 5, 0] rfl ?_
  exact hK45 v0 v1 v2 v3 v4 x1 I L kv0 h
set_option maxRecDepth 100000 in
def f_X12_findByEffort_L45 (K7 : Nat → Int32 → Int32 → jI → jL → Prop) (K14 : Nat → Int32 → Int32 → Int32 → jI → jL → Prop) (Z : jZ) (Q : jI → jL → Prop) : Nat → Nat → Int32 → Int32 → Int32 → Int32 → Int32 → jI → jL → Prop
  | 0 => fun _ _ _ _ _ _ _ _ => False
  | n + 1 => fun v0 v1 v2 v3 v4 v5 I L => (((3 : Int32) < v5 → (∀ b3 : Nat, jr Z v0 40 = some b3 → (vp_in (((1000 : Int32) * (v2 + (1 : Int32))) + v3) 25000 ∧ (∀ I5 : jI, I5 = jpI I b3 (((1000 : Int32) * (v2 + (1 : Int32))) + v3).toNatClampNeg v4 → (∀ x6 : Int32, x6 = v3 + 1 → K14 v0 v1 v2 x6 I5 L))))) ∧ (¬ ((3 : Int32) < v5) → (∀ x7 : Int32, x7 = ((((3 : Int32) * (v2 + (1 : Int32))) + v5) - (1 : Int32)) → (∀ b8 : Nat, jr Z v0 37 = some b8 → (vp_in x7 75 ∧ (((I b8 x7.toNatClampNeg) = (1000000000 : Int32) → f_X12_findByEffort_b147 K7 K14 (f_X12_findByEffort_L45 K7 K14 Z Q n) Z Q v0 v1 v2 v3 v4 v5 I L) ∧ (¬ ((I b8 x7.toNatClampNeg) = (1000000000 : Int32)) → (∀ b11 : Nat, jr Z v0 38 = some b11 → (vp_in x7 75 ∧ (((I b11 x7.toNatClampNeg) ≤ v3 → (∀ b14 : Nat, jr Z v0 40 = some b14 → (∀ b15 : Nat, jr Z v0 38 = some b15 → (vp_in x7 75 ∧ (vp_in ((((1000 : Int32) * ((v2 + v5) + (1 : Int32))) + v3) - (I b15 x7.toNatClampNeg)) 25000 ∧ (∀ x18 : Int32, x18 = (I b14 ((((1000 : Int32) * ((v2 + v5) + (1 : Int32))) + v3) - (I b15 x7.toNatClampNeg)).toNatClampNeg) → ((x18 = (1000000000 : Int32) → f_X12_findByEffort_b147 K7 K14 (f_X12_findByEffort_L45 K7 K14 Z Q n) Z Q v0 v1 v2 v3 v4 v5 I L) ∧ (¬ (x18 = (1000000000 : Int32)) → (∀ b20 : Nat, jr Z v0 37 = some b20 → (vp_in x7 75 ∧ (∀ x22 : Int32, x22 = (if ((x18 + ((100 : Int32) * (I b20 x7.toNatClampNeg))) + (1 : Int32)) < v4 then ((x18 + ((100 : Int32) * (I b20 x7.toNatClampNeg))) + (1 : Int32)) else v4) → f_X12_findByEffort_b147 K7 K14 (f_X12_findByEffort_L45 K7 K14 Z Q n) Z Q v0 v1 v2 v3 x22 v5 I L))))))))))) ∧ (¬ ((I b11 x7.toNatClampNeg) ≤ v3) → f_X12_findByEffort_b147 K7 K14 (f_X12_findByEffort_L45 K7 K14 Z Q n) Z Q v0 v1 v2 v3 v4 v5 I L)))))))))))
set_option maxHeartbeats 4000000 in
set_option maxRecDepth 100000 in
theorem m_X12_findByEffort_L45 {G : jG} {Z : jZ} {Q : jI → jL → Prop} (E : jE G cX12_findByEffort RX12 w_X12_findByEffort 8 none { frames := 1, cells := 0, slots := 0, locals := 23 } (rtV Z Q)) (hZ : SH Z) (K7 : Nat → Int32 → Int32 → jI → jL → Prop) (hK7 : ∀ (v0 : Nat) (v1 : Int32) (v2 : Int32) (I : jI) (L : jL), jk Z v0 12 → K7 v0 v1 v2 I L → jJ G 8 7 [(0, .ref v0), (1, .int v1), (2, .int v2)] [] Z I L 0 0) (K14 : Nat → Int32 → Int32 → Int32 → jI → jL → Prop) (hK14 : ∀ (v0 : Nat) (v1 : Int32) (v2 : Int32) (v3 : Int32) (I : jI) (L : jL), jk Z v0 12 → K14 v0 v1 v2 v3 I L → jJ G 8 14 [(0, .ref v0), (1, .int v1), (2, .int v2), (3, .int v3)] [] Z I L 0 0) : ∀ (n : Nat) (v0 : Nat) (v1 : Int32) (v2 : Int32) (v3 : Int32) (v4 : Int32) (v5 : Int32) (I : jI) (L : jL), jk Z v0 12 → f_X12_findByEffort_L45 K7 K14 Z Q n v0 v1 v2 v3 v4 v5 I L → jJ G 8 45 [(0, .ref v0), (1, .int v1), (2, .int v2), (3, .int v3), (4, .int v4), (5, .int v5)] [] Z I L 0 0 := by
  intro n
  induction n with
  | zero => intro v0 v1 v2 v3 v4 v5 I L _ h; exact h.elim
  | succ n ih =>
    intro v0 v1 v2 v3 v4 v5 I L kv0 h
    have h : (((3 : Int32) < v5 → (∀ b3 : Nat, jr Z v0 40 = some b3 → (vp_in (((1000 : Int32) * (v2 + (1 : Int32))) + v3) 25000 ∧ (∀ I5 : jI, I5 = jpI I b3 (((1000 : Int32) * (v2 + (1 : Int32))) + v3).toNatClampNeg v4 → (∀ x6 : Int32, x6 = v3 + 1 → K14 v0 v1 v2 x6 I5 L))))) ∧ (¬ ((3 : Int32) < v5) → (∀ x7 : Int32, x7 = ((((3 : Int32) * (v2 + (1 : Int32))) + v5) - (1 : Int32)) → (∀ b8 : Nat, jr Z v0 37 = some b8 → (vp_in x7 75 ∧ (((I b8 x7.toNatClampNeg) = (1000000000 : Int32) → f_X12_findByEffort_b147 K7 K14 (f_X12_findByEffort_L45 K7 K14 Z Q n) Z Q v0 v1 v2 v3 v4 v5 I L) ∧ (¬ ((I b8 x7.toNatClampNeg) = (1000000000 : Int32)) → (∀ b11 : Nat, jr Z v0 38 = some b11 → (vp_in x7 75 ∧ (((I b11 x7.toNatClampNeg) ≤ v3 → (∀ b14 : Nat, jr Z v0 40 = some b14 → (∀ b15 : Nat, jr Z v0 38 = some b15 → (vp_in x7 75 ∧ (vp_in ((((1000 : Int32) * ((v2 + v5) + (1 : Int32))) + v3) - (I b15 x7.toNatClampNeg)) 25000 ∧ (∀ x18 : Int32, x18 = (I b14 ((((1000 : Int32) * ((v2 + v5) + (1 : Int32))) + v3) - (I b15 x7.toNatClampNeg)).toNatClampNeg) → ((x18 = (1000000000 : Int32) → f_X12_findByEffort_b147 K7 K14 (f_X12_findByEffort_L45 K7 K14 Z Q n) Z Q v0 v1 v2 v3 v4 v5 I L) ∧ (¬ (x18 = (1000000000 : Int32)) → (∀ b20 : Nat, jr Z v0 37 = some b20 → (vp_in x7 75 ∧ (∀ x22 : Int32, x22 = (if ((x18 + ((100 : Int32) * (I b20 x7.toNatClampNeg))) + (1 : Int32)) < v4 then ((x18 + ((100 : Int32) * (I b20 x7.toNatClampNeg))) + (1 : Int32)) else v4) → f_X12_findByEffort_b147 K7 K14 (f_X12_findByEffort_L45 K7 K14 Z Q n) Z Q v0 v1 v2 v3 x22 v5 I L))))))))))) ∧ (¬ ((I b11 x7.toNatClampNeg) ≤ v3) → f_X12_findByEffort_b147 K7 K14 (f_X12_findByEffort_L45 K7 K14 Z Q n) Z Q v0 v1 v2 v3 v4 v5 I L))))))))))) := h
    obtain ⟨K45, eK45⟩ : ∃ K : Nat → Int32 → Int32 → Int32 → Int32 → Int32 → jI → jL → Prop, K = f_X12_findByEffort_L45 K7 K14 Z Q n := ⟨_, rfl⟩
    have hK45 := ih
    clear eK45 K45
    generalize f_X12_findByEffort_L45 K7 K14 Z Q n = K45 at hK45 h
    refine j_iload E dX12_findByEffort_45 5 rfl ?_
    refine j_iconst E (v := 3) dX12_findByEffort_47 (by decide) ?_
    refine j_icmp_gt E 153 dX12_findByEffort_48 (by decide) (fun c2 => ?_) (fun c2 => ?_)
    · have h := h.1 c2
      refine j_aload_n E dX12_findByEffort_153 0 rfl ?_
      obtain ⟨b3, eb3, kb3, lb3⟩ := sh_f hZ kv0 (j := 40) (k := 14) (m := 25000) rfl
      have h := h b3 eb3
      refine j_getr E 12 40 rfl rfl (by decide) (by decide) (iw iT_12) rfl rfl (tw W_810) kv0 eb3 dX12_findByEffort_154 ?_
      refine j_sipush E (v := 1000) dX12_findByEffort_157 (by decide) ?_
      refine j_iload_n E dX12_findByEffort_160 2 rfl ?_
      refine j_iconst E (v := 1) dX12_findByEffort_161 (by decide) ?_
      refine j_iadd E dX12_findByEffort_162 ?_
      refine j_imul E dX12_findByEffort_163 ?_
      refine j_iload_n E dX12_findByEffort_164 3 rfl ?_
      refine j_iadd E dX12_findByEffort_165 ?_
      refine j_iload E dX12_findByEffort_166 4 rfl ?_
      obtain ⟨o4, h⟩ := h
      refine j_iast E kb3 (by rw [lb3]; exact o4) dX12_findByEffort_168 ?_
      refine j_nmI (fun I5 eI5 => ?_)
      have h := h I5 eI5
      obtain ⟨x6, ex6⟩ : ∃ y : Int32, y = v3 + 1 := ⟨_, rfl⟩
      have h := h x6 ex6
      refine j_iinc E x6 [(3, .int x6), (0, .ref v0), (1, .int v1), (2, .int v2), (4, .int v4), (5, .int v5)] dX12_findByEffort_169 3 rfl (by rw [ex6]; rfl) (by decide) rfl ?_
      refine j_goto E 14 dX12_findByEffort_172 (by decide) ?_
      refine j_sub [1, 2, 3, 0] rfl ?_
      exact hK14 v0 v1 v2 x6 I5 L kv0 h
    · have h := h.2 c2
      refine j_iconst E (v := 3) dX12_findByEffort_51 (by decide) ?_
      refine j_iload_n E dX12_findByEffort_52 2 rfl ?_
      refine j_iconst E (v := 1) dX12_findByEffort_53 (by decide) ?_
      refine j_iadd E dX12_findByEffort_54 ?_
      refine j_imul E dX12_findByEffort_55 ?_
      refine j_iload E dX12_findByEffort_56 5 rfl ?_
      refine j_iadd E dX12_findByEffort_58 ?_
      refine j_iconst E (v := 1) dX12_findByEffort_59 (by decide) ?_
      refine j_isub E dX12_findByEffort_60 ?_
      refine j_topi (fun x7 ex7 => ?_)
      have h := h x7 ex7
      refine j_istore E 6 [(6, .int x7), (0, .ref v0), (1, .int v1), (2, .int v2), (3, .int v3), (4, .int v4), (5, .int v5)] dX12_findByEffort_61 (by decide) rfl ?_
      refine j_aload_n E dX12_findByEffort_63 1 rfl ?_
      obtain ⟨b8, eb8, kb8, lb8⟩ := sh_f hZ kv0 (j := 37) (k := 14) (m := 75) rfl
      have h := h b8 eb8
      refine j_getr E 12 37 rfl rfl (by decide) (by decide) (iw iT_12) rfl rfl (tw W_806) kv0 eb8 dX12_findByEffort_64 ?_
      refine j_iload E dX12_findByEffort_67 0 rfl ?_
      obtain ⟨o9, h⟩ := h
      refine j_iald E kb8 (by rw [lb8]; exact o9) dX12_findByEffort_69 ?_
      refine j_ldcw E (tw W_807) dX12_findByEffort_70 ?_
      refine j_icmp_eq E 147 dX12_findByEffort_73 (by decide) (fun c10 => ?_) (fun c10 => ?_)
      · have h := h.1 c10
        refine j_sub [1, 2, 3, 4, 5, 6] rfl ?_
        exact m_X12_findByEffort_b147 E hZ K7 hK7 K14 hK14 K45 hK45 v0 v1 v2 v3 v4 v5 I L kv0 h
      · have h := h.2 c10
        refine j_aload_n E dX12_findByEffort_76 1 rfl ?_
        obtain ⟨b11, eb11, kb11, lb11⟩ := sh_f hZ kv0 (j := 38) (k := 14) (m := 75) rfl
        have h := h b11 eb11
        refine j_getr E 12 38 rfl rfl (by decide) (by decide) (iw iT_12) rfl rfl (tw W_809) kv0 eb11 dX12_findByEffort_77 ?_
        refine j_iload E dX12_findByEffort_80 0 rfl ?_
        obtain ⟨o12, h⟩ := h
        refine j_iald E kb11 (by rw [lb11]; exact o12) dX12_findByEffort_82 ?_
        refine j_iload_n E dX12_findByEffort_83 4 rfl ?_
        refine j_icmp_le E 90 dX12_findByEffort_84 (by decide) (fun c13 => ?_) (fun c13 => ?_)
        · have h := h.1 c13
          refine j_aload_n E dX12_findByEffort_90 1 rfl ?_
          obtain ⟨b14, eb14, kb14, lb14⟩ := sh_f hZ kv0 (j := 40) (k := 14) (m := 25000) rfl
          have h := h b14 eb14
          refine j_getr E 12 40 rfl rfl (by decide) (by decide) (iw iT_12) rfl rfl (tw W_810) kv0 eb14 dX12_findByEffort_91 ?_
          refine j_sipush E (v := 1000) dX12_findByEffort_94 (by decide) ?_
          refine j_iload_n E dX12_findByEffort_97 3 rfl ?_
          refine j_iload E dX12_findByEffort_98 6 rfl ?_
          refine j_iadd E dX12_findByEffort_100 ?_
          refine j_iconst E (v := 1) dX12_findByEffort_101 (by decide) ?_
          refine j_iadd E dX12_findByEffort_102 ?_
          refine j_imul E dX12_findByEffort_103 ?_
          refine j_iload_n E dX12_findByEffort_104 4 rfl ?_
          refine j_iadd E dX12_findByEffort_105 ?_
          refine j_aload_n E dX12_findByEffort_106 1 rfl ?_
          obtain ⟨b15, eb15, kb15, lb15⟩ := sh_f hZ kv0 (j := 38) (k := 14) (m := 75) rfl
          have h := h b15 eb15
          refine j_getr E 12 38 rfl rfl (by decide) (by decide) (iw iT_12) rfl rfl (tw W_809) kv0 eb15 dX12_findByEffort_107 ?_
          refine j_iload E dX12_findByEffort_110 0 rfl ?_
          obtain ⟨o16, h⟩ := h
          refine j_iald E kb15 (by rw [lb15]; exact o16) dX12_findByEffort_112 ?_
          refine j_isub E dX12_findByEffort_113 ?_
          obtain ⟨o17, h⟩ := h
          refine j_iald E kb14 (by rw [lb14]; exact o17) dX12_findByEffort_114 ?_
          refine j_topi (fun x18 ex18 => ?_)
          have h := h x18 ex18
          refine j_istore E 7 [(7, .int x18), (6, .int x7), (0, .ref v0), (1, .int v1), (2, .int v2), (3, .int v3), (4, .int v4), (5, .int v5)] dX12_findByEffort_115 (by decide) rfl ?_
          refine j_iload E dX12_findByEffort_117 0 rfl ?_
          refine j_ldcw E (tw W_807) dX12_findByEffort_119 ?_
          refine j_icmp_eq E 147 dX12_findByEffort_122 (by decide) (fun c19 => ?_) (fun c19 => ?_)
          · have h := h.1 c19
            refine j_sub [2, 3, 4, 5, 6, 7] rfl ?_
            exact m_X12_findByEffort_b147 E hZ K7 hK7 K14 hK14 K45 hK45 v0 v1 v2 v3 v4 v5 I L kv0 h
          · have h := h.2 c19
            refine j_iload E dX12_findByEffort_125 6 rfl ?_
            refine j_iload E dX12_findByEffort_127 0 rfl ?_
            refine j_bipush E (v := 100) dX12_findByEffort_129 (by decide) ?_
            refine j_aload_n E dX12_findByEffort_131 2 rfl ?_
            obtain ⟨b20, eb20, kb20, lb20⟩ := sh_f hZ kv0 (j := 37) (k := 14) (m := 75) rfl
            have h := h b20 eb20
            refine j_getr E 12 37 rfl rfl (by decide) (by decide) (iw iT_12) rfl rfl (tw W_806) kv0 eb20 dX12_findByEffort_132 ?_
            refine j_iload E dX12_findByEffort_135 1 rfl ?_
            obtain ⟨o21, h⟩ := h
            refine j_iald E kb20 (by rw [lb20]; exact o21) dX12_findByEffort_137 ?_
            refine j_imul E dX12_findByEffort_138 ?_
            refine j_iadd E dX12_findByEffort_139 ?_
            refine j_iconst E (v := 1) dX12_findByEffort_140 (by decide) ?_
            refine j_iadd E dX12_findByEffort_141 ?_
            refine j_min E (tw W_755) (tw W_118) (tw W_119) (tw W_120) (by decide) (Nat.le_of_ble_eq_true rfl) (Nat.zero_le _) (Nat.zero_le _) dX12_findByEffort_142 ?_
            refine j_topi (fun x22 ex22 => ?_)
            have h := h x22 ex22
            refine j_istore E 4 [(4, .int x22), (7, .int x18), (6, .int x7), (0, .ref v0), (1, .int v1), (2, .int v2), (3, .int v3), (5, .int v5)] dX12_findByEffort_145 (by decide) rfl ?_
            refine j_sub [3, 4, 5, 6, 0, 7] rfl ?_
            exact m_X12_findByEffort_b147 E hZ K7 hK7 K14 hK14 K45 hK45 v0 v1 v2 v3 x22 v5 I L kv0 h
        · have h := h.2 c13
          refine j_goto E 147 dX12_findByEffort_87 (by decide) ?_
          refine j_sub [1, 2, 3, 4, 5, 6] rfl ?_
          exact m_X12_findByEffort_b147 E hZ K7 hK7 K14 hK14 K45 hK45 v0 v1 v2 v3 v4 v5 I L kv0 h
set_option maxRecDepth 100000 in
def f_X12_findByEffort_b40 (K7 : Nat → Int32 → Int32 → jI → jL → Prop) (K14 : Nat → Int32 → Int32 → Int32 → jI → jL → Prop) (Z : jZ) (Q : jI → jL → Prop) (v0 : Nat) (v1 : Int32) (v2 : Int32) (v3 : Int32) (s0 : Int32) (I : jI) (L : jL) : Prop := (∃ m45 : Nat, f_X12_findByEffort_L45 K7 K14 Z Q m45 v0 v1 v2 v3 s0 (1 : Int32) I L)
set_option maxHeartbeats 4000000 in
set_option maxRecDepth 100000 in
theorem m_X12_findByEffort_b40 {G : jG} {Z : jZ} {Q : jI → jL → Prop} (E : jE G cX12_findByEffort RX12 w_X12_findByEffort 8 none { frames := 1, cells := 0, slots := 0, locals := 23 } (rtV Z Q)) (hZ : SH Z) (K7 : Nat → Int32 → Int32 → jI → jL → Prop) (hK7 : ∀ (v0 : Nat) (v1 : Int32) (v2 : Int32) (I : jI) (L : jL), jk Z v0 12 → K7 v0 v1 v2 I L → jJ G 8 7 [(0, .ref v0), (1, .int v1), (2, .int v2)] [] Z I L 0 0) (K14 : Nat → Int32 → Int32 → Int32 → jI → jL → Prop) (hK14 : ∀ (v0 : Nat) (v1 : Int32) (v2 : Int32) (v3 : Int32) (I : jI) (L : jL), jk Z v0 12 → K14 v0 v1 v2 v3 I L → jJ G 8 14 [(0, .ref v0), (1, .int v1), (2, .int v2), (3, .int v3)] [] Z I L 0 0) (v0 : Nat) (v1 : Int32) (v2 : Int32) (v3 : Int32) (s0 : Int32) (I : jI) (L : jL) (kv0 : jk Z v0 12) (h : f_X12_findByEffort_b40 K7 K14 Z Q v0 v1 v2 v3 s0 I L) : jJ G 8 40 [(0, .ref v0), (1, .int v1), (2, .int v2), (3, .int v3)] [.int s0] Z I L 0 0 := by
  refine j_istore E 4 [(4, .int s0), (0, .ref v0), (1, .int v1), (2, .int v2), (3, .int v3)] dX12_findByEffort_40 (by decide) rfl ?_
  refine j_iconst E (v := 1) dX12_findByEffort_42 (by decide) ?_
  refine j_istore E 5 [(5, .int (1 : Int32)), (4, .int s0), (0, .ref v0), (1, .int v1), (2, .int v2), (3, .int v3)] dX12_findByEffort_43 (by decide) rfl ?_
  obtain ⟨n23, h⟩ := h
  refine j_sub [2, 3, 4, 5, 1, 0] rfl ?_
  exact m_X12_findByEffort_L45 E hZ K7 hK7 K14 hK14 n23 v0 v1 v2 v3 s0 (1 : Int32) I L kv0 h
set_option maxRecDepth 100000 in
def f_X12_findByEffort_b37 (K7 : Nat → Int32 → Int32 → jI → jL → Prop) (K14 : Nat → Int32 → Int32 → Int32 → jI → jL → Prop) (Z : jZ) (Q : jI → jL → Prop) (v0 : Nat) (v1 : Int32) (v2 : Int32) (v3 : Int32) (I : jI) (L : jL) : Prop := f_X12_findByEffort_b40 K7 K14 Z Q v0 v1 v2 v3 (1000000000 : Int32) I L
set_option maxHeartbeats 4000000 in
set_option maxRecDepth 100000 in
theorem m_X12_findByEffort_b37 {G : jG} {Z : jZ} {Q : jI → jL → Prop} (E : jE G cX12_findByEffort RX12 w_X12_findByEffort 8 none { frames := 1, cells := 0, slots := 0, locals := 23 } (rtV Z Q)) (hZ : SH Z) (K7 : Nat → Int32 → Int32 → jI → jL → Prop) (hK7 : ∀ (v0 : Nat) (v1 : Int32) (v2 : Int32) (I : jI) (L : jL), jk Z v0 12 → K7 v0 v1 v2 I L → jJ G 8 7 [(0, .ref v0), (1, .int v1), (2, .int v2)] [] Z I L 0 0) (K14 : Nat → Int32 → Int32 → Int32 → jI → jL → Prop) (hK14 : ∀ (v0 : Nat) (v1 : Int32) (v2 : Int32) (v3 : Int32) (I : jI) (L : jL), jk Z v0 12 → K14 v0 v1 v2 v3 I L → jJ G 8 14 [(0, .ref v0), (1, .int v1), (2, .int v2), (3, .int v3)] [] Z I L 0 0) (v0 : Nat) (v1 : Int32) (v2 : Int32) (v3 : Int32) (I : jI) (L : jL) (kv0 : jk Z v0 12) (h : f_X12_findByEffort_b37 K7 K14 Z Q v0 v1 v2 v3 I L) : jJ G 8 37 [(0, .ref v0), (1, .int v1), (2, .int v2), (3, .int v3)] [] Z I L 0 0 := by
  refine j_ldcw E (tw W_807) dX12_findByEffort_37 ?_
  refine j_sub [0, 1, 2, 3] rfl ?_
  exact m_X12_findByEffort_b40 E hZ K7 hK7 K14 hK14 v0 v1 v2 v3 (1000000000 : Int32) I L kv0 h
set_option maxRecDepth 100000 in
def f_X12_findByEffort_L14 (K7 : Nat → Int32 → Int32 → jI → jL → Prop) (Z : jZ) (Q : jI → jL → Prop) : Nat → Nat → Int32 → Int32 → Int32 → jI → jL → Prop
  | 0 => fun _ _ _ _ _ _ => False
  | n + 1 => fun v0 v1 v2 v3 I L => ((v1 < v3 → (∀ x25 : Int32, x25 = v2 + (-1) → K7 v0 v1 x25 I L)) ∧ (¬ (v1 < v3) → ((¬ v2 = ((I v0 0) - (1 : Int32)) → f_X12_findByEffort_b37 K7 (f_X12_findByEffort_L14 K7 Z Q n) Z Q v0 v1 v2 v3 I L) ∧ (v2 = ((I v0 0) - (1 : Int32)) → ((¬ v3 = 0 → f_X12_findByEffort_b37 K7 (f_X12_findByEffort_L14 K7 Z Q n) Z Q v0 v1 v2 v3 I L) ∧ (v3 = 0 → f_X12_findByEffort_b40 K7 (f_X12_findByEffort_L14 K7 Z Q n) Z Q v0 v1 v2 v3 (0 : Int32) I L))))))
set_option maxHeartbeats 4000000 in
set_option maxRecDepth 100000 in
theorem m_X12_findByEffort_L14 {G : jG} {Z : jZ} {Q : jI → jL → Prop} (E : jE G cX12_findByEffort RX12 w_X12_findByEffort 8 none { frames := 1, cells := 0, slots := 0, locals := 23 } (rtV Z Q)) (hZ : SH Z) (K7 : Nat → Int32 → Int32 → jI → jL → Prop) (hK7 : ∀ (v0 : Nat) (v1 : Int32) (v2 : Int32) (I : jI) (L : jL), jk Z v0 12 → K7 v0 v1 v2 I L → jJ G 8 7 [(0, .ref v0), (1, .int v1), (2, .int v2)] [] Z I L 0 0) : ∀ (n : Nat) (v0 : Nat) (v1 : Int32) (v2 : Int32) (v3 : Int32) (I : jI) (L : jL), jk Z v0 12 → f_X12_findByEffort_L14 K7 Z Q n v0 v1 v2 v3 I L → jJ G 8 14 [(0, .ref v0), (1, .int v1), (2, .int v2), (3, .int v3)] [] Z I L 0 0 := by
  intro n
  induction n with
  | zero => intro v0 v1 v2 v3 I L _ h; exact h.elim
  | succ n ih =>
    intro v0 v1 v2 v3 I L kv0 h
    have h : ((v1 < v3 → (∀ x25 : Int32, x25 = v2 + (-1) → K7 v0 v1 x25 I L)) ∧ (¬ (v1 < v3) → ((¬ v2 = ((I v0 0) - (1 : Int32)) → f_X12_findByEffort_b37 K7 (f_X12_findByEffort_L14 K7 Z Q n) Z Q v0 v1 v2 v3 I L) ∧ (v2 = ((I v0 0) - (1 : Int32)) → ((¬ v3 = 0 → f_X12_findByEffort_b37 K7 (f_X12_findByEffort_L14 K7 Z Q n) Z Q v0 v1 v2 v3 I L) ∧ (v3 = 0 → f_X12_findByEffort_b40 K7 (f_X12_findByEffort_L14 K7 Z Q n) Z Q v0 v1 v2 v3 (0 : Int32) I L)))))) := h
    obtain ⟨K14, eK14⟩ : ∃ K : Nat → Int32 → Int32 → Int32 → jI → jL → Prop, K = f_X12_findByEffort_L14 K7 Z Q n := ⟨_, rfl⟩
    have hK14 := ih
    clear eK14 K14
    generalize f_X12_findByEffort_L14 K7 Z Q n = K14 at hK14 h
    refine j_iload_n E dX12_findByEffort_14 3 rfl ?_
    refine j_iload_n E dX12_findByEffort_15 1 rfl ?_
    refine j_icmp_gt E 175 dX12_findByEffort_16 (by decide) (fun c24 => ?_) (fun c24 => ?_)
    · have h := h.1 c24
      obtain ⟨x25, ex25⟩ : ∃ y : Int32, y = v2 + (-1) := ⟨_, rfl⟩
      have h := h x25 ex25
      refine j_iinc E x25 [(2, .int x25), (0, .ref v0), (1, .int v1), (3, .int v3)] dX12_findByEffort_175 2 rfl (by rw [ex25]; rfl) (by decide) rfl ?_
      refine j_goto E 7 dX12_findByEffort_178 (by decide) ?_
      refine j_sub [1, 2, 0] rfl ?_
      exact hK7 v0 v1 x25 I L kv0 h
    · have h := h.2 c24
      refine j_iload_n E dX12_findByEffort_19 2 rfl ?_
      refine j_aload_n E dX12_findByEffort_20 0 rfl ?_
      refine j_geti E 12 0 rfl rfl (by decide) (by decide) (iw iT_12) rfl rfl (tw W_677) kv0 dX12_findByEffort_21 ?_
      refine j_iconst E (v := 1) dX12_findByEffort_24 (by decide) ?_
      refine j_isub E dX12_findByEffort_25 ?_
      refine j_icmp_ne E 37 dX12_findByEffort_26 (by decide) (fun c26 => ?_) (fun c26 => ?_)
      · have h := h.1 c26
        refine j_sub [0, 1, 2, 3] rfl ?_
        exact m_X12_findByEffort_b37 E hZ K7 hK7 K14 hK14 v0 v1 v2 v3 I L kv0 h
      · have h := h.2 c26
        refine j_iload_n E dX12_findByEffort_29 3 rfl ?_
        refine j_if_ne E 37 dX12_findByEffort_30 (by decide) (fun c27 => ?_) (fun c27 => ?_)
        · have h := h.1 c27
          refine j_sub [0, 1, 2, 3] rfl ?_
          exact m_X12_findByEffort_b37 E hZ K7 hK7 K14 hK14 v0 v1 v2 v3 I L kv0 h
        · have h := h.2 c27
          refine j_iconst E (v := 0) dX12_findByEffort_33 (by decide) ?_
          refine j_goto E 40 dX12_findByEffort_34 (by decide) ?_
          refine j_sub [0, 1, 2, 3] rfl ?_
          exact m_X12_findByEffort_b40 E hZ K7 hK7 K14 hK14 v0 v1 v2 v3 (0 : Int32) I L kv0 h
set_option maxRecDepth 100000 in
def f_X12_findByEffort_L7  (Z : jZ) (Q : jI → jL → Prop) : Nat → Nat → Int32 → Int32 → jI → jL → Prop
  | 0 => fun _ _ _ _ _ => False
  | n + 1 => fun v0 v1 v2 I L => ((v2 < (-1 : Int32) → Q I L) ∧ (¬ (v2 < (-1 : Int32)) → (∃ m14 : Nat, f_X12_findByEffort_L14 (f_X12_findByEffort_L7 Z Q n) Z Q m14 v0 v1 v2 (0 : Int32) I L)))
set_option maxHeartbeats 4000000 in
set_option maxRecDepth 100000 in
theorem m_X12_findByEffort_L7 {G : jG} {Z : jZ} {Q : jI → jL → Prop} (E : jE G cX12_findByEffort RX12 w_X12_findByEffort 8 none { frames := 1, cells := 0, slots := 0, locals := 23 } (rtV Z Q)) (hZ : SH Z)  : ∀ (n : Nat) (v0 : Nat) (v1 : Int32) (v2 : Int32) (I : jI) (L : jL), jk Z v0 12 → f_X12_findByEffort_L7  Z Q n v0 v1 v2 I L → jJ G 8 7 [(0, .ref v0), (1, .int v1), (2, .int v2)] [] Z I L 0 0 := by
  intro n
  induction n with
  | zero => intro v0 v1 v2 I L _ h; exact h.elim
  | succ n ih =>
    intro v0 v1 v2 I L kv0 h
    have h : ((v2 < (-1 : Int32) → Q I L) ∧ (¬ (v2 < (-1 : Int32)) → (∃ m14 : Nat, f_X12_findByEffort_L14 (f_X12_findByEffort_L7 Z Q n) Z Q m14 v0 v1 v2 (0 : Int32) I L))) := h
    obtain ⟨K7, eK7⟩ : ∃ K : Nat → Int32 → Int32 → jI → jL → Prop, K = f_X12_findByEffort_L7  Z Q n := ⟨_, rfl⟩
    have hK7 := ih
    clear eK7 K7
    generalize f_X12_findByEffort_L7  Z Q n = K7 at hK7 h
    refine j_iload_n E dX12_findByEffort_7 2 rfl ?_
    refine j_iconst E (v := -1) dX12_findByEffort_8 (by decide) ?_
    refine j_icmp_lt E 181 dX12_findByEffort_9 (by decide) (fun c28 => ?_) (fun c28 => ?_)
    · have h := h.1 c28
      exact j_return E ⟨rfl, rfl, h⟩ (Nat.zero_le _) (Nat.zero_le _) dX12_findByEffort_181
    · have h := h.2 c28
      refine j_iconst E (v := 0) dX12_findByEffort_12 (by decide) ?_
      refine j_istore_n E 3 [(3, .int (0 : Int32)), (0, .ref v0), (1, .int v1), (2, .int v2)] dX12_findByEffort_13 rfl (by decide) rfl ?_
      obtain ⟨n29, h⟩ := h
      refine j_sub [1, 2, 3, 0] rfl ?_
      exact m_X12_findByEffort_L14 E hZ K7 hK7 n29 v0 v1 v2 (0 : Int32) I L kv0 h
set_option maxRecDepth 100000 in
def f_X12_findByEffort (v0 : Nat) (v1 : Int32) (Z : jZ) (I : jI) (L : jL) (Q : jI → jL → Prop) : Prop := (∀ x30 : Int32, x30 = ((I v0 0) - (1 : Int32)) → (∃ m7 : Nat, f_X12_findByEffort_L7  Z Q m7 v0 v1 x30 I L))
set_option maxHeartbeats 4000000 in
set_option maxRecDepth 100000 in
theorem c_X12_findByEffort (l : Launch) (D : va_G) (cy : jC) (v0 : Nat) (v1 : Int32) (Z : jZ) (I : jI) (L : jL) (Q : jI → jL → Prop) (hZ : SH Z) (kv0 : jk Z v0 12) (h : f_X12_findByEffort v0 v1 Z I L Q) : jCt l yX12_findByEffort w_X12_findByEffort { frames := 1, cells := 0, slots := 0, locals := 23 } D cy [.ref v0, .int v1] Z I L (rtV Z Q) := by
  refine jCt_of (cc := cX12_findByEffort) (maxL := 8) (ret := none) (by decide +kernel) rfl (Nat.le_of_ble_eq_true rfl) ?_
  intro G eD eY eL E
  subst eD; subst eY; subst eL
  have E : jE G cX12_findByEffort RX12 w_X12_findByEffort 8 none { frames := 1, cells := 0, slots := 0, locals := 23 } (rtV Z Q) := E
  show jJ G 8 0 [(0, .ref v0), (1, .int v1)] [] Z I L 0 0
  refine j_aload_n E dX12_findByEffort_0 0 rfl ?_
  refine j_geti E 12 0 rfl rfl (by decide) (by decide) (iw iT_12) rfl rfl (tw W_677) kv0 dX12_findByEffort_1 ?_
  refine j_iconst E (v := 1) dX12_findByEffort_4 (by decide) ?_
  refine j_isub E dX12_findByEffort_5 ?_
  refine j_topi (fun x30 ex30 => ?_)
  have h := h x30 ex30
  refine j_istore_n E 2 [(2, .int x30), (0, .ref v0), (1, .int v1)] dX12_findByEffort_6 rfl (by decide) rfl ?_
  obtain ⟨n31, h⟩ := h
  refine j_sub [1, 2, 0] rfl ?_
  exact m_X12_findByEffort_L7 E hZ  n31 v0 v1 x30 I L kv0 h
set_option maxRecDepth 100000 in
def f_X12_isOn (v0 : Nat) (v1 : Int32) (v2 : Int32) (v3 : Int32) (Z : jZ) (I : jI) (L : jL) (Q : Int32 → jI → jL → Prop) : Prop := (∀ x1 : Int32, x1 = ((((3 : Int32) * (v1 + (1 : Int32))) + v2) - (1 : Int32)) → (∀ b2 : Nat, jr Z v0 37 = some b2 → (vp_in x1 75 ∧ (((I b2 x1.toNatClampNeg) = (1000000000 : Int32) → Q (0 : Int32) I L) ∧ (¬ ((I b2 x1.toNatClampNeg) = (1000000000 : Int32)) → (∀ b5 : Nat, jr Z v0 38 = some b5 → (vp_in x1 75 ∧ (((I b5 x1.toNatClampNeg) ≤ v3 → (∀ b8 : Nat, jr Z v0 40 = some b8 → (∀ b9 : Nat, jr Z v0 38 = some b9 → (vp_in x1 75 ∧ (vp_in ((((1000 : Int32) * ((v1 + v2) + (1 : Int32))) + v3) - (I b9 x1.toNatClampNeg)) 25000 ∧ (∀ x12 : Int32, x12 = (I b8 ((((1000 : Int32) * ((v1 + v2) + (1 : Int32))) + v3) - (I b9 x1.toNatClampNeg)).toNatClampNeg) → ((x12 = (1000000000 : Int32) → Q (0 : Int32) I L) ∧ (¬ (x12 = (1000000000 : Int32)) → (∀ b14 : Nat, jr Z v0 37 = some b14 → (vp_in x1 75 ∧ (∀ b16 : Nat, jr Z v0 40 = some b16 → (vp_in (((1000 : Int32) * (v1 + (1 : Int32))) + v3) 25000 ∧ ((¬ ((x12 + ((100 : Int32) * (I b14 x1.toNatClampNeg))) + (1 : Int32)) = (I b16 (((1000 : Int32) * (v1 + (1 : Int32))) + v3).toNatClampNeg) → Q (0 : Int32) I L) ∧ (((x12 + ((100 : Int32) * (I b14 x1.toNatClampNeg))) + (1 : Int32)) = (I b16 (((1000 : Int32) * (v1 + (1 : Int32))) + v3).toNatClampNeg) → Q (1 : Int32) I L)))))))))))))) ∧ (¬ ((I b5 x1.toNatClampNeg) ≤ v3) → Q (0 : Int32) I L)))))))))
set_option maxHeartbeats 4000000 in
set_option maxRecDepth 100000 in
theorem c_X12_isOn (l : Launch) (D : va_G) (cy : jC) (v0 : Nat) (v1 : Int32) (v2 : Int32) (v3 : Int32) (Z : jZ) (I : jI) (L : jL) (Q : Int32 → jI → jL → Prop) (hZ : SH Z) (kv0 : jk Z v0 12) (h : f_X12_isOn v0 v1 v2 v3 Z I L Q) : jCt l yX12_isOn w_X12_isOn { frames := 0, cells := 0, slots := 0, locals := 0 } D cy [.ref v0, .int v1, .int v2, .int v3] Z I L (rtZ Z Q) := by
  refine jCt_of (cc := cX12_isOn) (maxL := 6) (ret := (some .boolean)) (by decide +kernel) rfl (Nat.le_of_ble_eq_true rfl) ?_
  intro G eD eY eL E
  subst eD; subst eY; subst eL
  have E : jE G cX12_isOn RX12 w_X12_isOn 6 (some .boolean) { frames := 0, cells := 0, slots := 0, locals := 0 } (rtZ Z Q) := E
  show jJ G 6 0 [(0, .ref v0), (1, .int v1), (2, .int v2), (3, .int v3)] [] Z I L 0 0
  refine j_iconst E (v := 3) dX12_isOn_0 (by decide) ?_
  refine j_iload_n E dX12_isOn_1 1 rfl ?_
  refine j_iconst E (v := 1) dX12_isOn_2 (by decide) ?_
  refine j_iadd E dX12_isOn_3 ?_
  refine j_imul E dX12_isOn_4 ?_
  refine j_iload_n E dX12_isOn_5 2 rfl ?_
  refine j_iadd E dX12_isOn_6 ?_
  refine j_iconst E (v := 1) dX12_isOn_7 (by decide) ?_
  refine j_isub E dX12_isOn_8 ?_
  refine j_topi (fun x1 ex1 => ?_)
  have h := h x1 ex1
  refine j_istore E 4 [(4, .int x1), (0, .ref v0), (1, .int v1), (2, .int v2), (3, .int v3)] dX12_isOn_9 (by decide) rfl ?_
  refine j_aload_n E dX12_isOn_11 1 rfl ?_
  obtain ⟨b2, eb2, kb2, lb2⟩ := sh_f hZ kv0 (j := 37) (k := 14) (m := 75) rfl
  have h := h b2 eb2
  refine j_getr E 12 37 rfl rfl (by decide) (by decide) (iw iT_12) rfl rfl (tw W_806) kv0 eb2 dX12_isOn_12 ?_
  refine j_iload E dX12_isOn_15 0 rfl ?_
  obtain ⟨o3, h⟩ := h
  refine j_iald E kb2 (by rw [lb2]; exact o3) dX12_isOn_17 ?_
  refine j_ldcw E (tw W_807) dX12_isOn_18 ?_
  refine j_icmp_eq E 35 dX12_isOn_21 (by decide) (fun c4 => ?_) (fun c4 => ?_)
  · have h := h.1 c4
    refine j_iconst E (v := 0) dX12_isOn_35 (by decide) ?_
    exact j_zreturn E (Or.inl rfl) ⟨rfl, _, rfl, (Or.inl rfl), h⟩ (Nat.zero_le _) (Nat.zero_le _) dX12_isOn_36
  · have h := h.2 c4
    refine j_aload_n E dX12_isOn_24 1 rfl ?_
    obtain ⟨b5, eb5, kb5, lb5⟩ := sh_f hZ kv0 (j := 38) (k := 14) (m := 75) rfl
    have h := h b5 eb5
    refine j_getr E 12 38 rfl rfl (by decide) (by decide) (iw iT_12) rfl rfl (tw W_809) kv0 eb5 dX12_isOn_25 ?_
    refine j_iload E dX12_isOn_28 0 rfl ?_
    obtain ⟨o6, h⟩ := h
    refine j_iald E kb5 (by rw [lb5]; exact o6) dX12_isOn_30 ?_
    refine j_iload_n E dX12_isOn_31 4 rfl ?_
    refine j_icmp_le E 37 dX12_isOn_32 (by decide) (fun c7 => ?_) (fun c7 => ?_)
    · have h := h.1 c7
      refine j_aload_n E dX12_isOn_37 1 rfl ?_
      obtain ⟨b8, eb8, kb8, lb8⟩ := sh_f hZ kv0 (j := 40) (k := 14) (m := 25000) rfl
      have h := h b8 eb8
      refine j_getr E 12 40 rfl rfl (by decide) (by decide) (iw iT_12) rfl rfl (tw W_810) kv0 eb8 dX12_isOn_38 ?_
      refine j_sipush E (v := 1000) dX12_isOn_41 (by decide) ?_
      refine j_iload_n E dX12_isOn_44 2 rfl ?_
      refine j_iload_n E dX12_isOn_45 3 rfl ?_
      refine j_iadd E dX12_isOn_46 ?_
      refine j_iconst E (v := 1) dX12_isOn_47 (by decide) ?_
      refine j_iadd E dX12_isOn_48 ?_
      refine j_imul E dX12_isOn_49 ?_
      refine j_iload_n E dX12_isOn_50 4 rfl ?_
      refine j_iadd E dX12_isOn_51 ?_
      refine j_aload_n E dX12_isOn_52 1 rfl ?_
      obtain ⟨b9, eb9, kb9, lb9⟩ := sh_f hZ kv0 (j := 38) (k := 14) (m := 75) rfl
      have h := h b9 eb9
      refine j_getr E 12 38 rfl rfl (by decide) (by decide) (iw iT_12) rfl rfl (tw W_809) kv0 eb9 dX12_isOn_53 ?_
      refine j_iload E dX12_isOn_56 0 rfl ?_
      obtain ⟨o10, h⟩ := h
      refine j_iald E kb9 (by rw [lb9]; exact o10) dX12_isOn_58 ?_
      refine j_isub E dX12_isOn_59 ?_
      obtain ⟨o11, h⟩ := h
      refine j_iald E kb8 (by rw [lb8]; exact o11) dX12_isOn_60 ?_
      refine j_topi (fun x12 ex12 => ?_)
      have h := h x12 ex12
      refine j_istore E 5 [(5, .int x12), (4, .int x1), (0, .ref v0), (1, .int v1), (2, .int v2), (3, .int v3)] dX12_isOn_61 (by decide) rfl ?_
      refine j_iload E dX12_isOn_63 0 rfl ?_
      refine j_ldcw E (tw W_807) dX12_isOn_65 ?_
      refine j_icmp_eq E 107 dX12_isOn_68 (by decide) (fun c13 => ?_) (fun c13 => ?_)
      · have h := h.1 c13
        refine j_iconst E (v := 0) dX12_isOn_107 (by decide) ?_
        exact j_zreturn E (Or.inl rfl) ⟨rfl, _, rfl, (Or.inl rfl), h⟩ (Nat.zero_le _) (Nat.zero_le _) dX12_isOn_108
      · have h := h.2 c13
        refine j_iload E dX12_isOn_71 0 rfl ?_
        refine j_bipush E (v := 100) dX12_isOn_73 (by decide) ?_
        refine j_aload_n E dX12_isOn_75 2 rfl ?_
        obtain ⟨b14, eb14, kb14, lb14⟩ := sh_f hZ kv0 (j := 37) (k := 14) (m := 75) rfl
        have h := h b14 eb14
        refine j_getr E 12 37 rfl rfl (by decide) (by decide) (iw iT_12) rfl rfl (tw W_806) kv0 eb14 dX12_isOn_76 ?_
        refine j_iload E dX12_isOn_79 1 rfl ?_
        obtain ⟨o15, h⟩ := h
        refine j_iald E kb14 (by rw [lb14]; exact o15) dX12_isOn_81 ?_
        refine j_imul E dX12_isOn_82 ?_
        refine j_iadd E dX12_isOn_83 ?_
        refine j_iconst E (v := 1) dX12_isOn_84 (by decide) ?_
        refine j_iadd E dX12_isOn_85 ?_
        refine j_aload_n E dX12_isOn_86 2 rfl ?_
        obtain ⟨b16, eb16, kb16, lb16⟩ := sh_f hZ kv0 (j := 40) (k := 14) (m := 25000) rfl
        have h := h b16 eb16
        refine j_getr E 12 40 rfl rfl (by decide) (by decide) (iw iT_12) rfl rfl (tw W_810) kv0 eb16 dX12_isOn_87 ?_
        refine j_sipush E (v := 1000) dX12_isOn_90 (by decide) ?_
        refine j_iload_n E dX12_isOn_93 3 rfl ?_
        refine j_iconst E (v := 1) dX12_isOn_94 (by decide) ?_
        refine j_iadd E dX12_isOn_95 ?_
        refine j_imul E dX12_isOn_96 ?_
        refine j_iload_n E dX12_isOn_97 5 rfl ?_
        refine j_iadd E dX12_isOn_98 ?_
        obtain ⟨o17, h⟩ := h
        refine j_iald E kb16 (by rw [lb16]; exact o17) dX12_isOn_99 ?_
        refine j_icmp_ne E 107 dX12_isOn_100 (by decide) (fun c18 => ?_) (fun c18 => ?_)
        · have h := h.1 c18
          refine j_iconst E (v := 0) dX12_isOn_107 (by decide) ?_
          exact j_zreturn E (Or.inl rfl) ⟨rfl, _, rfl, (Or.inl rfl), h⟩ (Nat.zero_le _) (Nat.zero_le _) dX12_isOn_108
        · have h := h.2 c18
          refine j_iconst E (v := 1) dX12_isOn_103 (by decide) ?_
          refine j_goto E 108 dX12_isOn_104 (by decide) ?_
          exact j_zreturn E (Or.inr rfl) ⟨rfl, _, rfl, (Or.inr rfl), h⟩ (Nat.zero_le _) (Nat.zero_le _) dX12_isOn_108
    · have h := h.2 c7
      refine j_iconst E (v := 0) dX12_isOn_35 (by decide) ?_
      exact j_zreturn E (Or.inl rfl) ⟨rfl, _, rfl, (Or.inl rfl), h⟩ (Nat.zero_le _) (Nat.zero_le _) dX12_isOn_36
set_option maxRecDepth 100000 in
def f_X12_findClimb_L144 (K131 : Nat → Int32 → Int32 → jZ → jI → jL → Prop) (Q : Int32 → jZ → jI → jL → Prop) : Nat → Nat → Int32 → Int32 → Int32 → jZ → jI → jL → Prop
  | 0 => fun _ _ _ _ _ _ _ => False
  | n + 1 => fun v0 v3 v4 v5 Z I L => (f_X12_isOn v0 v3 v5 v4 Z I L (fun r6 I3 L4 => ((¬ r6 = 0 → (∀ b8 : Nat, jr Z v0 38 = some b8 → (vp_in ((((3 : Int32) * (v3 + (1 : Int32))) + v5) - (1 : Int32)) 75 ∧ (∀ x10 : Int32, x10 = (v4 - (I3 b8 ((((3 : Int32) * (v3 + (1 : Int32))) + v5) - (1 : Int32)).toNatClampNeg)) → (∀ x11 : Int32, x11 = (v3 + v5) → (∀ b12 : Nat, jr Z v0 44 = some b12 → (vp_in (I3 v0 43) 24 ∧ (∀ I14 : jI, I14 = jpI I3 b12 (I3 v0 43).toNatClampNeg x11 → (∀ I15 : jI, I15 = jpI I14 v0 43 ((I14 v0 43) + (1 : Int32)) → K131 v0 x11 x10 Z I15 L4))))))))) ∧ (r6 = 0 → (∀ x16 : Int32, x16 = v5 + 1 → (f_X12_findClimb_L144 K131 Q n) v0 v3 v4 x16 Z I3 L4)))))
set_option maxHeartbeats 4000000 in
set_option maxRecDepth 100000 in
theorem m_X12_findClimb_L144 {G : jG} {Z0 : jZ} {Q : Int32 → jZ → jI → jL → Prop} (E : jE G cX12_findClimb RX12 w_X12_findClimb 6 (some .boolean) { frames := 4, cells := 0, slots := 0, locals := 99 } (xrtZ Z0 Q)) (K131 : Nat → Int32 → Int32 → jZ → jI → jL → Prop) (hK131 : ∀ (v0 : Nat) (v3 : Int32) (v4 : Int32) (Z : jZ) (I : jI) (L : jL), SH Z → jext Z0 Z → jk Z v0 12 → K131 v0 v3 v4 Z I L → jJ G 6 131 [(0, .ref v0), (3, .int v3), (4, .int v4)] [] Z I L 0 0) : ∀ (n : Nat) (v0 : Nat) (v3 : Int32) (v4 : Int32) (v5 : Int32) (Z : jZ) (I : jI) (L : jL), SH Z → jext Z0 Z → jk Z v0 12 → f_X12_findClimb_L144 K131 Q n v0 v3 v4 v5 Z I L → jJ G 6 144 [(0, .ref v0), (3, .int v3), (4, .int v4), (5, .int v5)] [] Z I L 0 0 := by
  intro n
  induction n with
  | zero => intro v0 v3 v4 v5 Z I L _ _ _ h; exact h.elim
  | succ n ih =>
    intro v0 v3 v4 v5 Z I L hZ hx kv0 h
    have h : (f_X12_isOn v0 v3 v5 v4 Z I L (fun r6 I3 L4 => ((¬ r6 = 0 → (∀ b8 : Nat, jr Z v0 38 = some b8 → (vp_in ((((3 : Int32) * (v3 + (1 : Int32))) + v5) - (1 : Int32)) 75 ∧ (∀ x10 : Int32, x10 = (v4 - (I3 b8 ((((3 : Int32) * (v3 + (1 : Int32))) + v5) - (1 : Int32)).toNatClampNeg)) → (∀ x11 : Int32, x11 = (v3 + v5) → (∀ b12 : Nat, jr Z v0 44 = some b12 → (vp_in (I3 v0 43) 24 ∧ (∀ I14 : jI, I14 = jpI I3 b12 (I3 v0 43).toNatClampNeg x11 → (∀ I15 : jI, I15 = jpI I14 v0 43 ((I14 v0 43) + (1 : Int32)) → K131 v0 x11 x10 Z I15 L4))))))))) ∧ (r6 = 0 → (∀ x16 : Int32, x16 = v5 + 1 → (f_X12_findClimb_L144 K131 Q n) v0 v3 v4 x16 Z I3 L4))))) := h
    obtain ⟨K144, eK144⟩ : ∃ K : Nat → Int32 → Int32 → Int32 → jZ → jI → jL → Prop, K = f_X12_findClimb_L144 K131 Q n := ⟨_, rfl⟩
    have hK144 := ih
    clear eK144 K144
    generalize f_X12_findClimb_L144 K131 Q n = K144 at hK144 h
    refine j_aload_n E dX12_findClimb_144 0 rfl ?_
    refine j_iload_n E dX12_findClimb_145 1 rfl ?_
    refine j_iload E dX12_findClimb_146 3 rfl ?_
    refine j_iload E dX12_findClimb_148 2 rfl ?_
    refine j_callV E [.int v3, .int v5, .int v4] [] (c_X12_isOn (gL G) (gD G) (gY G) v0 v3 v5 v4 Z I L _ hZ kv0 h) (gwV W_812 W_813 W_814 W_679 W_811) rfl ⟨rfl, fy_X12_isOn⟩ ⟨by decide, by decide⟩ (c := 12) rfl (by decide) kv0 rfl rfl (Nat.le_of_ble_eq_true rfl) ⟨Nat.zero_le _, Nat.zero_le _⟩ dX12_findClimb_150 (fun v1 Z2 I3 L4 q5 => ?_)
    obtain ⟨rfl, r6, rfl, zr6, h⟩ := q5
    show jJ G 6 153 [(0, .ref v0), (3, .int v3), (4, .int v4), (5, .int v5)] [.int r6] Z I3 L4 0 0
    refine j_if_ne E 162 dX12_findClimb_153 (by decide) (fun c7 => ?_) (fun c7 => ?_)
    · have h := h.1 c7
      refine j_iload E dX12_findClimb_162 2 rfl ?_
      refine j_aload_n E dX12_findClimb_164 0 rfl ?_
      obtain ⟨b8, eb8, kb8, lb8⟩ := sh_f hZ kv0 (j := 38) (k := 14) (m := 75) rfl
      have h := h b8 eb8
      refine j_getr E 12 38 rfl rfl (by decide) (by decide) (iw iT_12) rfl rfl (tw W_809) kv0 eb8 dX12_findClimb_165 ?_
      refine j_iconst E (v := 3) dX12_findClimb_168 (by decide) ?_
      refine j_iload_n E dX12_findClimb_169 1 rfl ?_
      refine j_iconst E (v := 1) dX12_findClimb_170 (by decide) ?_
      refine j_iadd E dX12_findClimb_171 ?_
      refine j_imul E dX12_findClimb_172 ?_
      refine j_iload E dX12_findClimb_173 3 rfl ?_
      refine j_iadd E dX12_findClimb_175 ?_
      refine j_iconst E (v := 1) dX12_findClimb_176 (by decide) ?_
      refine j_isub E dX12_findClimb_177 ?_
      obtain ⟨o9, h⟩ := h
      refine j_iald E kb8 (by rw [lb8]; exact o9) dX12_findClimb_178 ?_
      refine j_isub E dX12_findClimb_179 ?_
      refine j_topi (fun x10 ex10 => ?_)
      have h := h x10 ex10
      refine j_istore E 4 [(4, .int x10), (0, .ref v0), (3, .int v3), (5, .int v5)] dX12_findClimb_180 (by decide) rfl ?_
      refine j_iload_n E dX12_findClimb_182 2 rfl ?_
      refine j_iload E dX12_findClimb_183 3 rfl ?_
      refine j_iadd E dX12_findClimb_185 ?_
      refine j_topi (fun x11 ex11 => ?_)
      have h := h x11 ex11
      refine j_istore_n E 3 [(3, .int x11), (4, .int x10), (0, .ref v0), (5, .int v5)] dX12_findClimb_186 rfl (by decide) rfl ?_
      refine j_aload_n E dX12_findClimb_187 2 rfl ?_
      obtain ⟨b12, eb12, kb12, lb12⟩ := sh_f hZ kv0 (j := 44) (k := 14) (m := 24) rfl
      have h := h b12 eb12
      refine j_getr E 12 44 rfl rfl (by decide) (by decide) (iw iT_12) rfl rfl (tw W_815) kv0 eb12 dX12_findClimb_188 ?_
      refine j_aload_n E dX12_findClimb_191 2 rfl ?_
      refine j_geti E 12 43 rfl rfl (by decide) (by decide) (iw iT_12) rfl rfl (tw W_816) kv0 dX12_findClimb_192 ?_
      refine j_iload_n E dX12_findClimb_195 0 rfl ?_
      obtain ⟨o13, h⟩ := h
      refine j_iast E kb12 (by rw [lb12]; exact o13) dX12_findClimb_196 ?_
      refine j_nmI (fun I14 eI14 => ?_)
      have h := h I14 eI14
      refine j_aload_n E dX12_findClimb_197 2 rfl ?_
      refine j_dup E dX12_findClimb_198 rfl ?_
      refine j_geti E 12 43 rfl rfl (by decide) (by decide) (iw iT_12) rfl rfl (tw W_816) kv0 dX12_findClimb_199 ?_
      refine j_iconst E (v := 1) dX12_findClimb_202 (by decide) ?_
      refine j_iadd E dX12_findClimb_203 ?_
      refine j_puti E 12 43 rfl rfl (by decide) (by decide) (iw iT_12) tyX12_ok nmX12 rfl rfl (tw W_816) rfl rfl rfl kv0 dX12_findClimb_204 ?_
      refine j_nmI (fun I15 eI15 => ?_)
      have h := h I15 eI15
      refine j_goto E 131 dX12_findClimb_207 (by decide) ?_
      refine j_sub [2, 0, 1] rfl ?_
      exact hK131 v0 x11 x10 Z I15 L4 hZ hx kv0 h
    · have h := h.2 c7
      obtain ⟨x16, ex16⟩ : ∃ y : Int32, y = v5 + 1 := ⟨_, rfl⟩
      have h := h x16 ex16
      refine j_iinc E x16 [(5, .int x16), (0, .ref v0), (3, .int v3), (4, .int v4)] dX12_findClimb_156 3 rfl (by rw [ex16]; rfl) (by decide) rfl ?_
      refine j_goto E 144 dX12_findClimb_159 (by decide) ?_
      refine j_sub [1, 2, 3, 0] rfl ?_
      exact hK144 v0 v3 v4 x16 Z I3 L4 hZ hx kv0 h
set_option maxRecDepth 100000 in
def f_X12_findClimb_L131  (Q : Int32 → jZ → jI → jL → Prop) : Nat → Nat → Int32 → Int32 → jZ → jI → jL → Prop
  | 0 => fun _ _ _ _ _ _ => False
  | n + 1 => fun v0 v3 v4 Z I L => ((((I v0 0) - (1 : Int32)) ≤ v3 → Q (1 : Int32) Z I L) ∧ (¬ (((I v0 0) - (1 : Int32)) ≤ v3) → (∃ m144 : Nat, f_X12_findClimb_L144 (f_X12_findClimb_L131 Q n) Q m144 v0 v3 v4 (1 : Int32) Z I L)))
set_option maxHeartbeats 4000000 in
set_option maxRecDepth 100000 in
theorem m_X12_findClimb_L131 {G : jG} {Z0 : jZ} {Q : Int32 → jZ → jI → jL → Prop} (E : jE G cX12_findClimb RX12 w_X12_findClimb 6 (some .boolean) { frames := 4, cells := 0, slots := 0, locals := 99 } (xrtZ Z0 Q))  : ∀ (n : Nat) (v0 : Nat) (v3 : Int32) (v4 : Int32) (Z : jZ) (I : jI) (L : jL), SH Z → jext Z0 Z → jk Z v0 12 → f_X12_findClimb_L131  Q n v0 v3 v4 Z I L → jJ G 6 131 [(0, .ref v0), (3, .int v3), (4, .int v4)] [] Z I L 0 0 := by
  intro n
  induction n with
  | zero => intro v0 v3 v4 Z I L _ _ _ h; exact h.elim
  | succ n ih =>
    intro v0 v3 v4 Z I L hZ hx kv0 h
    have h : ((((I v0 0) - (1 : Int32)) ≤ v3 → Q (1 : Int32) Z I L) ∧ (¬ (((I v0 0) - (1 : Int32)) ≤ v3) → (∃ m144 : Nat, f_X12_findClimb_L144 (f_X12_findClimb_L131 Q n) Q m144 v0 v3 v4 (1 : Int32) Z I L))) := h
    obtain ⟨K131, eK131⟩ : ∃ K : Nat → Int32 → Int32 → jZ → jI → jL → Prop, K = f_X12_findClimb_L131  Q n := ⟨_, rfl⟩
    have hK131 := ih
    clear eK131 K131
    generalize f_X12_findClimb_L131  Q n = K131 at hK131 h
    refine j_iload_n E dX12_findClimb_131 1 rfl ?_
    refine j_aload_n E dX12_findClimb_132 0 rfl ?_
    refine j_geti E 12 0 rfl rfl (by decide) (by decide) (iw iT_12) rfl rfl (tw W_677) kv0 dX12_findClimb_133 ?_
    refine j_iconst E (v := 1) dX12_findClimb_136 (by decide) ?_
    refine j_isub E dX12_findClimb_137 ?_
    refine j_icmp_ge E 210 dX12_findClimb_138 (by decide) (fun c17 => ?_) (fun c17 => ?_)
    · have h := h.1 c17
      refine j_iconst E (v := 1) dX12_findClimb_210 (by decide) ?_
      exact j_zreturn E (Or.inr rfl) ⟨hx, hZ, _, rfl, (Or.inr rfl), h⟩ (Nat.zero_le _) (Nat.zero_le _) dX12_findClimb_211
    · have h := h.2 c17
      refine j_iconst E (v := 1) dX12_findClimb_141 (by decide) ?_
      refine j_istore E 5 [(5, .int (1 : Int32)), (0, .ref v0), (3, .int v3), (4, .int v4)] dX12_findClimb_142 (by decide) rfl ?_
      obtain ⟨n18, h⟩ := h
      refine j_sub [1, 2, 3, 0] rfl ?_
      exact m_X12_findClimb_L144 E K131 hK131 n18 v0 v3 v4 (1 : Int32) Z I L hZ hx kv0 h
set_option maxRecDepth 100000 in
def f_X12_findClimb_b90 (K19 : Nat → Int32 → Int32 → Int32 → jZ → jI → jL → Prop) (Q : Int32 → jZ → jI → jL → Prop) (v0 : Nat) (v1 : Int32) (v2 : Int32) (v3 : Int32) (Z : jZ) (I : jI) (L : jL) : Prop := (∀ x19 : Int32, x19 = v3 + 1 → K19 v0 v1 v2 x19 Z I L)
set_option maxHeartbeats 4000000 in
set_option maxRecDepth 100000 in
theorem m_X12_findClimb_b90 {G : jG} {Z0 : jZ} {Q : Int32 → jZ → jI → jL → Prop} (E : jE G cX12_findClimb RX12 w_X12_findClimb 6 (some .boolean) { frames := 4, cells := 0, slots := 0, locals := 99 } (xrtZ Z0 Q)) (K19 : Nat → Int32 → Int32 → Int32 → jZ → jI → jL → Prop) (hK19 : ∀ (v0 : Nat) (v1 : Int32) (v2 : Int32) (v3 : Int32) (Z : jZ) (I : jI) (L : jL), SH Z → jext Z0 Z → jk Z v0 12 → K19 v0 v1 v2 v3 Z I L → jJ G 6 19 [(0, .ref v0), (1, .int v1), (2, .int v2), (3, .int v3)] [] Z I L 0 0) (v0 : Nat) (v1 : Int32) (v2 : Int32) (v3 : Int32) (Z : jZ) (I : jI) (L : jL) (hZ : SH Z) (hx : jext Z0 Z) (kv0 : jk Z v0 12) (h : f_X12_findClimb_b90 K19 Q v0 v1 v2 v3 Z I L) : jJ G 6 90 [(0, .ref v0), (1, .int v1), (2, .int v2), (3, .int v3)] [] Z I L 0 0 := by
  obtain ⟨x19, ex19⟩ : ∃ y : Int32, y = v3 + 1 := ⟨_, rfl⟩
  have h := h x19 ex19
  refine j_iinc E x19 [(3, .int x19), (0, .ref v0), (1, .int v1), (2, .int v2)] dX12_findClimb_90 3 rfl (by rw [ex19]; rfl) (by decide) rfl ?_
  refine j_goto E 19 dX12_findClimb_93 (by decide) ?_
  refine j_sub [1, 2, 3, 0] rfl ?_
  exact hK19 v0 v1 v2 x19 Z I L hZ hx kv0 h
set_option maxRecDepth 100000 in
def f_X12_findClimb_b88 (K19 : Nat → Int32 → Int32 → Int32 → jZ → jI → jL → Prop) (Q : Int32 → jZ → jI → jL → Prop) (v0 : Nat) (v1 : Int32) (v3 : Int32) (Z : jZ) (I : jI) (L : jL) : Prop := f_X12_findClimb_b90 K19 Q v0 v1 v3 v3 Z I L
set_option maxHeartbeats 4000000 in
set_option maxRecDepth 100000 in
theorem m_X12_findClimb_b88 {G : jG} {Z0 : jZ} {Q : Int32 → jZ → jI → jL → Prop} (E : jE G cX12_findClimb RX12 w_X12_findClimb 6 (some .boolean) { frames := 4, cells := 0, slots := 0, locals := 99 } (xrtZ Z0 Q)) (K19 : Nat → Int32 → Int32 → Int32 → jZ → jI → jL → Prop) (hK19 : ∀ (v0 : Nat) (v1 : Int32) (v2 : Int32) (v3 : Int32) (Z : jZ) (I : jI) (L : jL), SH Z → jext Z0 Z → jk Z v0 12 → K19 v0 v1 v2 v3 Z I L → jJ G 6 19 [(0, .ref v0), (1, .int v1), (2, .int v2), (3, .int v3)] [] Z I L 0 0) (v0 : Nat) (v1 : Int32) (v3 : Int32) (Z : jZ) (I : jI) (L : jL) (hZ : SH Z) (hx : jext Z0 Z) (kv0 : jk Z v0 12) (h : f_X12_findClimb_b88 K19 Q v0 v1 v3 Z I L) : jJ G 6 88 [(0, .ref v0), (1, .int v1), (3, .int v3)] [] Z I L 0 0 := by
  refine j_iload_n E dX12_findClimb_88 2 rfl ?_
  refine j_istore_n E 2 [(2, .int v3), (0, .ref v0), (1, .int v1), (3, .int v3)] dX12_findClimb_89 rfl (by decide) rfl ?_
  refine j_sub [1, 2, 0, 3] rfl ?_
  exact m_X12_findClimb_b90 E K19 hK19 v0 v1 v3 v3 Z I L hZ hx kv0 h
set_option maxRecDepth 100000 in
def f_X12_findClimb_L19  (Q : Int32 → jZ → jI → jL → Prop) : Nat → Nat → Int32 → Int32 → Int32 → jZ → jI → jL → Prop
  | 0 => fun _ _ _ _ _ _ _ => False
  | n + 1 => fun v0 v1 v2 v3 Z I L => (∀ b20 : Nat, jr Z v0 9 = some b20 → (vp_in v1 6 ∧ (((I b20 v1.toNatClampNeg) < v3 → ((¬ v2 = (-1 : Int32) → (∀ b24 : Nat, jr Z v0 40 = some b24 → (vp_in v2 25000 ∧ (∀ I26 : jI, I26 = jpI I v0 41 ((I b24 v2.toNatClampNeg) / (100 : Int32)) → (∀ I27 : jI, I27 = jpI I26 v0 42 v2 → (∀ I28 : jI, I28 = jpI I27 v0 43 (0 : Int32) → (∃ m131 : Nat, f_X12_findClimb_L131  Q m131 v0 (-1 : Int32) v2 Z I28 L))))))) ∧ (v2 = (-1 : Int32) → Q (0 : Int32) Z I L))) ∧ (¬ ((I b20 v1.toNatClampNeg) < v3) → (∀ b30 : Nat, jr Z v0 40 = some b30 → (vp_in v3 25000 ∧ (((I b30 v3.toNatClampNeg) = (1000000000 : Int32) → f_X12_findClimb_b90 (f_X12_findClimb_L19 Q n) Q v0 v1 v2 v3 Z I L) ∧ (¬ ((I b30 v3.toNatClampNeg) = (1000000000 : Int32)) → (∀ b33 : Nat, jr Z v0 40 = some b33 → (vp_in v3 25000 ∧ (∀ b35 : Nat, jr Z v0 10 = some b35 → (vp_in v1 6 ∧ ((((I b33 v3.toNatClampNeg) / (100 : Int32)) ≤ (I b35 v1.toNatClampNeg) → ((v2 = (-1 : Int32) → f_X12_findClimb_b88 (f_X12_findClimb_L19 Q n) Q v0 v1 v3 Z I L) ∧ (¬ (v2 = (-1 : Int32)) → (∀ b39 : Nat, jr Z v0 40 = some b39 → (vp_in v3 25000 ∧ (∀ b41 : Nat, jr Z v0 40 = some b41 → (vp_in v2 25000 ∧ ((((I b41 v2.toNatClampNeg) / (100 : Int32)) ≤ ((I b39 v3.toNatClampNeg) / (100 : Int32)) → f_X12_findClimb_b90 (f_X12_findClimb_L19 Q n) Q v0 v1 v2 v3 Z I L) ∧ (¬ (((I b41 v2.toNatClampNeg) / (100 : Int32)) ≤ ((I b39 v3.toNatClampNeg) / (100 : Int32))) → f_X12_findClimb_b88 (f_X12_findClimb_L19 Q n) Q v0 v1 v3 Z I L))))))))) ∧ (¬ (((I b33 v3.toNatClampNeg) / (100 : Int32)) ≤ (I b35 v1.toNatClampNeg)) → f_X12_findClimb_b90 (f_X12_findClimb_L19 Q n) Q v0 v1 v2 v3 Z I L))))))))))))))
set_option maxHeartbeats 4000000 in
set_option maxRecDepth 100000 in
theorem m_X12_findClimb_L19 {G : jG} {Z0 : jZ} {Q : Int32 → jZ → jI → jL → Prop} (E : jE G cX12_findClimb RX12 w_X12_findClimb 6 (some .boolean) { frames := 4, cells := 0, slots := 0, locals := 99 } (xrtZ Z0 Q))  : ∀ (n : Nat) (v0 : Nat) (v1 : Int32) (v2 : Int32) (v3 : Int32) (Z : jZ) (I : jI) (L : jL), SH Z → jext Z0 Z → jk Z v0 12 → f_X12_findClimb_L19  Q n v0 v1 v2 v3 Z I L → jJ G 6 19 [(0, .ref v0), (1, .int v1), (2, .int v2), (3, .int v3)] [] Z I L 0 0 := by
  intro n
  induction n with
  | zero => intro v0 v1 v2 v3 Z I L _ _ _ h; exact h.elim
  | succ n ih =>
    intro v0 v1 v2 v3 Z I L hZ hx kv0 h
    have h : (∀ b20 : Nat, jr Z v0 9 = some b20 → (vp_in v1 6 ∧ (((I b20 v1.toNatClampNeg) < v3 → ((¬ v2 = (-1 : Int32) → (∀ b24 : Nat, jr Z v0 40 = some b24 → (vp_in v2 25000 ∧ (∀ I26 : jI, I26 = jpI I v0 41 ((I b24 v2.toNatClampNeg) / (100 : Int32)) → (∀ I27 : jI, I27 = jpI I26 v0 42 v2 → (∀ I28 : jI, I28 = jpI I27 v0 43 (0 : Int32) → (∃ m131 : Nat, f_X12_findClimb_L131  Q m131 v0 (-1 : Int32) v2 Z I28 L))))))) ∧ (v2 = (-1 : Int32) → Q (0 : Int32) Z I L))) ∧ (¬ ((I b20 v1.toNatClampNeg) < v3) → (∀ b30 : Nat, jr Z v0 40 = some b30 → (vp_in v3 25000 ∧ (((I b30 v3.toNatClampNeg) = (1000000000 : Int32) → f_X12_findClimb_b90 (f_X12_findClimb_L19 Q n) Q v0 v1 v2 v3 Z I L) ∧ (¬ ((I b30 v3.toNatClampNeg) = (1000000000 : Int32)) → (∀ b33 : Nat, jr Z v0 40 = some b33 → (vp_in v3 25000 ∧ (∀ b35 : Nat, jr Z v0 10 = some b35 → (vp_in v1 6 ∧ ((((I b33 v3.toNatClampNeg) / (100 : Int32)) ≤ (I b35 v1.toNatClampNeg) → ((v2 = (-1 : Int32) → f_X12_findClimb_b88 (f_X12_findClimb_L19 Q n) Q v0 v1 v3 Z I L) ∧ (¬ (v2 = (-1 : Int32)) → (∀ b39 : Nat, jr Z v0 40 = some b39 → (vp_in v3 25000 ∧ (∀ b41 : Nat, jr Z v0 40 = some b41 → (vp_in v2 25000 ∧ ((((I b41 v2.toNatClampNeg) / (100 : Int32)) ≤ ((I b39 v3.toNatClampNeg) / (100 : Int32)) → f_X12_findClimb_b90 (f_X12_findClimb_L19 Q n) Q v0 v1 v2 v3 Z I L) ∧ (¬ (((I b41 v2.toNatClampNeg) / (100 : Int32)) ≤ ((I b39 v3.toNatClampNeg) / (100 : Int32))) → f_X12_findClimb_b88 (f_X12_findClimb_L19 Q n) Q v0 v1 v3 Z I L))))))))) ∧ (¬ (((I b33 v3.toNatClampNeg) / (100 : Int32)) ≤ (I b35 v1.toNatClampNeg)) → f_X12_findClimb_b90 (f_X12_findClimb_L19 Q n) Q v0 v1 v2 v3 Z I L)))))))))))))) := h
    obtain ⟨K19, eK19⟩ : ∃ K : Nat → Int32 → Int32 → Int32 → jZ → jI → jL → Prop, K = f_X12_findClimb_L19  Q n := ⟨_, rfl⟩
    have hK19 := ih
    clear eK19 K19
    generalize f_X12_findClimb_L19  Q n = K19 at hK19 h
    refine j_iload_n E dX12_findClimb_19 3 rfl ?_
    refine j_aload_n E dX12_findClimb_20 0 rfl ?_
    obtain ⟨b20, eb20, kb20, lb20⟩ := sh_f hZ kv0 (j := 9) (k := 14) (m := 6) rfl
    have h := h b20 eb20
    refine j_getr E 12 9 rfl rfl (by decide) (by decide) (iw iT_12) rfl rfl (tw W_718) kv0 eb20 dX12_findClimb_21 ?_
    refine j_iload_n E dX12_findClimb_24 1 rfl ?_
    obtain ⟨o21, h⟩ := h
    refine j_iald E kb20 (by rw [lb20]; exact o21) dX12_findClimb_25 ?_
    refine j_icmp_gt E 96 dX12_findClimb_26 (by decide) (fun c22 => ?_) (fun c22 => ?_)
    · have h := h.1 c22
      refine j_iload_n E dX12_findClimb_96 2 rfl ?_
      refine j_iconst E (v := -1) dX12_findClimb_97 (by decide) ?_
      refine j_icmp_ne E 103 dX12_findClimb_98 (by decide) (fun c23 => ?_) (fun c23 => ?_)
      · have h := h.1 c23
        refine j_aload_n E dX12_findClimb_103 0 rfl ?_
        refine j_aload_n E dX12_findClimb_104 0 rfl ?_
        obtain ⟨b24, eb24, kb24, lb24⟩ := sh_f hZ kv0 (j := 40) (k := 14) (m := 25000) rfl
        have h := h b24 eb24
        refine j_getr E 12 40 rfl rfl (by decide) (by decide) (iw iT_12) rfl rfl (tw W_810) kv0 eb24 dX12_findClimb_105 ?_
        refine j_iload_n E dX12_findClimb_108 2 rfl ?_
        obtain ⟨o25, h⟩ := h
        refine j_iald E kb24 (by rw [lb24]; exact o25) dX12_findClimb_109 ?_
        refine j_bipush E (v := 100) dX12_findClimb_110 (by decide) ?_
        refine j_idiv E dX12_findClimb_112 (by decide) ?_
        refine j_puti E 12 41 rfl rfl (by decide) (by decide) (iw iT_12) tyX12_ok nmX12 rfl rfl (tw W_817) rfl rfl rfl kv0 dX12_findClimb_113 ?_
        refine j_nmI (fun I26 eI26 => ?_)
        have h := h I26 eI26
        refine j_aload_n E dX12_findClimb_116 0 rfl ?_
        refine j_iload_n E dX12_findClimb_117 2 rfl ?_
        refine j_puti E 12 42 rfl rfl (by decide) (by decide) (iw iT_12) tyX12_ok nmX12 rfl rfl (tw W_818) rfl rfl rfl kv0 dX12_findClimb_118 ?_
        refine j_nmI (fun I27 eI27 => ?_)
        have h := h I27 eI27
        refine j_aload_n E dX12_findClimb_121 0 rfl ?_
        refine j_iconst E (v := 0) dX12_findClimb_122 (by decide) ?_
        refine j_puti E 12 43 rfl rfl (by decide) (by decide) (iw iT_12) tyX12_ok nmX12 rfl rfl (tw W_816) rfl rfl rfl kv0 dX12_findClimb_123 ?_
        refine j_nmI (fun I28 eI28 => ?_)
        have h := h I28 eI28
        refine j_iconst E (v := -1) dX12_findClimb_126 (by decide) ?_
        refine j_istore_n E 3 [(3, .int (-1 : Int32)), (0, .ref v0), (1, .int v1), (2, .int v2)] dX12_findClimb_127 rfl (by decide) rfl ?_
        refine j_iload_n E dX12_findClimb_128 3 rfl ?_
        refine j_istore E 4 [(4, .int v2), (3, .int (-1 : Int32)), (0, .ref v0), (1, .int v1), (2, .int v2)] dX12_findClimb_129 (by decide) rfl ?_
        obtain ⟨n29, h⟩ := h
        refine j_sub [2, 1, 0] rfl ?_
        exact m_X12_findClimb_L131 E  n29 v0 (-1 : Int32) v2 Z I28 L hZ hx kv0 h
      · have h := h.2 c23
        refine j_iconst E (v := 0) dX12_findClimb_101 (by decide) ?_
        exact j_zreturn E (Or.inl rfl) ⟨hx, hZ, _, rfl, (Or.inl rfl), h⟩ (Nat.zero_le _) (Nat.zero_le _) dX12_findClimb_102
    · have h := h.2 c22
      refine j_aload_n E dX12_findClimb_29 0 rfl ?_
      obtain ⟨b30, eb30, kb30, lb30⟩ := sh_f hZ kv0 (j := 40) (k := 14) (m := 25000) rfl
      have h := h b30 eb30
      refine j_getr E 12 40 rfl rfl (by decide) (by decide) (iw iT_12) rfl rfl (tw W_810) kv0 eb30 dX12_findClimb_30 ?_
      refine j_iload_n E dX12_findClimb_33 3 rfl ?_
      obtain ⟨o31, h⟩ := h
      refine j_iald E kb30 (by rw [lb30]; exact o31) dX12_findClimb_34 ?_
      refine j_ldcw E (tw W_807) dX12_findClimb_35 ?_
      refine j_icmp_eq E 90 dX12_findClimb_38 (by decide) (fun c32 => ?_) (fun c32 => ?_)
      · have h := h.1 c32
        refine j_sub [0, 1, 2, 3] rfl ?_
        exact m_X12_findClimb_b90 E K19 hK19 v0 v1 v2 v3 Z I L hZ hx kv0 h
      · have h := h.2 c32
        refine j_aload_n E dX12_findClimb_41 0 rfl ?_
        obtain ⟨b33, eb33, kb33, lb33⟩ := sh_f hZ kv0 (j := 40) (k := 14) (m := 25000) rfl
        have h := h b33 eb33
        refine j_getr E 12 40 rfl rfl (by decide) (by decide) (iw iT_12) rfl rfl (tw W_810) kv0 eb33 dX12_findClimb_42 ?_
        refine j_iload_n E dX12_findClimb_45 3 rfl ?_
        obtain ⟨o34, h⟩ := h
        refine j_iald E kb33 (by rw [lb33]; exact o34) dX12_findClimb_46 ?_
        refine j_bipush E (v := 100) dX12_findClimb_47 (by decide) ?_
        refine j_idiv E dX12_findClimb_49 (by decide) ?_
        refine j_aload_n E dX12_findClimb_50 0 rfl ?_
        obtain ⟨b35, eb35, kb35, lb35⟩ := sh_f hZ kv0 (j := 10) (k := 14) (m := 6) rfl
        have h := h b35 eb35
        refine j_getr E 12 10 rfl rfl (by decide) (by decide) (iw iT_12) rfl rfl (tw W_720) kv0 eb35 dX12_findClimb_51 ?_
        refine j_iload_n E dX12_findClimb_54 1 rfl ?_
        obtain ⟨o36, h⟩ := h
        refine j_iald E kb35 (by rw [lb35]; exact o36) dX12_findClimb_55 ?_
        refine j_icmp_le E 62 dX12_findClimb_56 (by decide) (fun c37 => ?_) (fun c37 => ?_)
        · have h := h.1 c37
          refine j_iload_n E dX12_findClimb_62 2 rfl ?_
          refine j_iconst E (v := -1) dX12_findClimb_63 (by decide) ?_
          refine j_icmp_eq E 88 dX12_findClimb_64 (by decide) (fun c38 => ?_) (fun c38 => ?_)
          · have h := h.1 c38
            refine j_sub [0, 1, 3] rfl ?_
            exact m_X12_findClimb_b88 E K19 hK19 v0 v1 v3 Z I L hZ hx kv0 h
          · have h := h.2 c38
            refine j_aload_n E dX12_findClimb_67 0 rfl ?_
            obtain ⟨b39, eb39, kb39, lb39⟩ := sh_f hZ kv0 (j := 40) (k := 14) (m := 25000) rfl
            have h := h b39 eb39
            refine j_getr E 12 40 rfl rfl (by decide) (by decide) (iw iT_12) rfl rfl (tw W_810) kv0 eb39 dX12_findClimb_68 ?_
            refine j_iload_n E dX12_findClimb_71 3 rfl ?_
            obtain ⟨o40, h⟩ := h
            refine j_iald E kb39 (by rw [lb39]; exact o40) dX12_findClimb_72 ?_
            refine j_bipush E (v := 100) dX12_findClimb_73 (by decide) ?_
            refine j_idiv E dX12_findClimb_75 (by decide) ?_
            refine j_aload_n E dX12_findClimb_76 0 rfl ?_
            obtain ⟨b41, eb41, kb41, lb41⟩ := sh_f hZ kv0 (j := 40) (k := 14) (m := 25000) rfl
            have h := h b41 eb41
            refine j_getr E 12 40 rfl rfl (by decide) (by decide) (iw iT_12) rfl rfl (tw W_810) kv0 eb41 dX12_findClimb_77 ?_
            refine j_iload_n E dX12_findClimb_80 2 rfl ?_
            obtain ⟨o42, h⟩ := h
            refine j_iald E kb41 (by rw [lb41]; exact o42) dX12_findClimb_81 ?_
            refine j_bipush E (v := 100) dX12_findClimb_82 (by decide) ?_
            refine j_idiv E dX12_findClimb_84 (by decide) ?_
            refine j_icmp_ge E 90 dX12_findClimb_85 (by decide) (fun c43 => ?_) (fun c43 => ?_)
            · have h := h.1 c43
              refine j_sub [0, 1, 2, 3] rfl ?_
              exact m_X12_findClimb_b90 E K19 hK19 v0 v1 v2 v3 Z I L hZ hx kv0 h
            · have h := h.2 c43
              refine j_sub [0, 1, 3] rfl ?_
              exact m_X12_findClimb_b88 E K19 hK19 v0 v1 v3 Z I L hZ hx kv0 h
        · have h := h.2 c37
          refine j_goto E 90 dX12_findClimb_59 (by decide) ?_
          refine j_sub [0, 1, 2, 3] rfl ?_
          exact m_X12_findClimb_b90 E K19 hK19 v0 v1 v2 v3 Z I L hZ hx kv0 h
set_option maxRecDepth 100000 in
def f_X12_findClimb (v0 : Nat) (v1 : Int32) (Z : jZ) (I : jI) (L : jL) (Q : Int32 → jZ → jI → jL → Prop) : Prop := (f_X12_layMoves v0 v1 Z I L (fun Z45 I46 L47 => (∀ b50 : Nat, jr Z45 v0 9 = some b50 → (vp_in v1 6 ∧ (f_X12_findByEffort v0 (I46 b50 v1.toNatClampNeg) Z45 I46 L47 (fun I54 L55 => (∃ m19 : Nat, f_X12_findClimb_L19  Q m19 v0 v1 (-1 : Int32) (0 : Int32) Z45 I54 L55)))))))
set_option maxHeartbeats 4000000 in
set_option maxRecDepth 100000 in
theorem c_X12_findClimb (l : Launch) (D : va_G) (cy : jC) (v0 : Nat) (v1 : Int32) (Z : jZ) (I : jI) (L : jL) (Q : Int32 → jZ → jI → jL → Prop) (hZ : SH Z) (kv0 : jk Z v0 12) (h : f_X12_findClimb v0 v1 Z I L Q) : jCt l yX12_findClimb w_X12_findClimb { frames := 4, cells := 0, slots := 0, locals := 99 } D cy [.ref v0, .int v1] Z I L (xrtZ Z Q) := by
  refine jCt_of (cc := cX12_findClimb) (maxL := 6) (ret := (some .boolean)) (by decide +kernel) rfl (Nat.le_of_ble_eq_true rfl) ?_
  intro G eD eY eL E
  subst eD; subst eY; subst eL
  have E : jE G cX12_findClimb RX12 w_X12_findClimb 6 (some .boolean) { frames := 4, cells := 0, slots := 0, locals := 99 } (xrtZ Z Q) := E
  have hx : jext Z Z := jext_rfl
  show jJ G 6 0 [(0, .ref v0), (1, .int v1)] [] Z I L 0 0
  refine j_aload_n E dX12_findClimb_0 0 rfl ?_
  refine j_iload_n E dX12_findClimb_1 1 rfl ?_
  refine j_callV E [.int v1] [] (c_X12_layMoves (gL G) (gD G) (gY G) v0 v1 Z I L _ hZ kv0 h) (gwV W_820 W_821 W_822 W_679 W_819) rfl ⟨rfl, fy_X12_layMoves⟩ ⟨by decide, by decide⟩ (c := 12) rfl (by decide) kv0 rfl rfl (Nat.le_of_ble_eq_true rfl) ⟨Nat.zero_le _, Nat.zero_le _⟩ dX12_findClimb_2 (fun v44 Z45 I46 L47 q48 => ?_)
  obtain ⟨yZ45, hZ45, rfl, h⟩ := q48
  have hZ := hZ45
  have hx : jext Z Z45 := jext_trans hx yZ45
  have k49 := (yZ45 _ _ kv0).1
  show jJ G 6 5 [(0, .ref v0), (1, .int v1)] [] Z45 I46 L47 0 0
  refine j_aload_n E dX12_findClimb_5 0 rfl ?_
  refine j_aload_n E dX12_findClimb_6 0 rfl ?_
  obtain ⟨b50, eb50, kb50, lb50⟩ := sh_f hZ k49 (j := 9) (k := 14) (m := 6) rfl
  have h := h b50 eb50
  refine j_getr E 12 9 rfl rfl (by decide) (by decide) (iw iT_12) rfl rfl (tw W_718) k49 eb50 dX12_findClimb_7 ?_
  refine j_iload_n E dX12_findClimb_10 1 rfl ?_
  obtain ⟨o51, h⟩ := h
  refine j_iald E kb50 (by rw [lb50]; exact o51) dX12_findClimb_11 ?_
  refine j_callV E [.int (I46 b50 v1.toNatClampNeg)] [] (c_X12_findByEffort (gL G) (gD G) (gY G) v0 (I46 b50 v1.toNatClampNeg) Z45 I46 L47 _ hZ k49 h) (gwV W_824 W_825 W_826 W_679 W_823) rfl ⟨rfl, fy_X12_findByEffort⟩ ⟨by decide, by decide⟩ (c := 12) rfl (by decide) k49 rfl rfl (Nat.le_of_ble_eq_true rfl) ⟨Nat.zero_le _, Nat.zero_le _⟩ dX12_findClimb_12 (fun v52 Z53 I54 L55 q56 => ?_)
  obtain ⟨rfl, rfl, h⟩ := q56
  show jJ G 6 15 [(0, .ref v0), (1, .int v1)] [] Z45 I54 L55 0 0
  refine j_iconst E (v := -1) dX12_findClimb_15 (by decide) ?_
  refine j_istore_n E 2 [(2, .int (-1 : Int32)), (0, .ref v0), (1, .int v1)] dX12_findClimb_16 rfl (by decide) rfl ?_
  refine j_iconst E (v := 0) dX12_findClimb_17 (by decide) ?_
  refine j_istore_n E 3 [(3, .int (0 : Int32)), (2, .int (-1 : Int32)), (0, .ref v0), (1, .int v1)] dX12_findClimb_18 rfl (by decide) rfl ?_
  obtain ⟨n57, h⟩ := h
  refine j_sub [2, 3, 1, 0] rfl ?_
  exact m_X12_findClimb_L19 E  n57 v0 v1 (-1 : Int32) (0 : Int32) Z45 I54 L55 hZ hx k49 h
set_option maxRecDepth 100000 in
def f_X12_climb_L58  (Q : Int32 → jZ → jI → jL → Prop) : Nat → Nat → Int32 → jZ → jI → jL → Prop
  | 0 => fun _ _ _ _ _ => False
  | n + 1 => fun v0 v2 Z I L => (((I v0 43) ≤ v2 → Q (I v0 41) Z I L) ∧ (¬ ((I v0 43) ≤ v2) → (∀ b2 : Nat, jr Z v0 44 = some b2 → (vp_in v2 24 ∧ (f_X12_tell v0 ((I b2 v2.toNatClampNeg).toInt64) Z I L (fun I6 L7 => (∀ x9 : Int32, x9 = v2 + 1 → (f_X12_climb_L58 Q n) v0 x9 Z I6 L7)))))))
set_option maxHeartbeats 4000000 in
set_option maxRecDepth 100000 in
theorem m_X12_climb_L58 {G : jG} {Z0 : jZ} {Q : Int32 → jZ → jI → jL → Prop} (E : jE G cX12_climb RX12 w_X12_climb 3 (some .int) { frames := 5, cells := 0, slots := 0, locals := 124 } (xrtI Z0 Q))  : ∀ (n : Nat) (v0 : Nat) (v2 : Int32) (Z : jZ) (I : jI) (L : jL), SH Z → jext Z0 Z → jk Z v0 12 → f_X12_climb_L58  Q n v0 v2 Z I L → jJ G 3 58 [(0, .ref v0), (2, .int v2)] [] Z I L 0 0 := by
  intro n
  induction n with
  | zero => intro v0 v2 Z I L _ _ _ h; exact h.elim
  | succ n ih =>
    intro v0 v2 Z I L hZ hx kv0 h
    have h : (((I v0 43) ≤ v2 → Q (I v0 41) Z I L) ∧ (¬ ((I v0 43) ≤ v2) → (∀ b2 : Nat, jr Z v0 44 = some b2 → (vp_in v2 24 ∧ (f_X12_tell v0 ((I b2 v2.toNatClampNeg).toInt64) Z I L (fun I6 L7 => (∀ x9 : Int32, x9 = v2 + 1 → (f_X12_climb_L58 Q n) v0 x9 Z I6 L7))))))) := h
    obtain ⟨K58, eK58⟩ : ∃ K : Nat → Int32 → jZ → jI → jL → Prop, K = f_X12_climb_L58  Q n := ⟨_, rfl⟩
    have hK58 := ih
    clear eK58 K58
    generalize f_X12_climb_L58  Q n = K58 at hK58 h
    refine j_iload_n E dX12_climb_58 1 rfl ?_
    refine j_aload_n E dX12_climb_59 0 rfl ?_
    refine j_geti E 12 43 rfl rfl (by decide) (by decide) (iw iT_12) rfl rfl (tw W_816) kv0 dX12_climb_60 ?_
    refine j_icmp_ge E 83 dX12_climb_63 (by decide) (fun c1 => ?_) (fun c1 => ?_)
    · have h := h.1 c1
      refine j_aload_n E dX12_climb_83 0 rfl ?_
      refine j_geti E 12 41 rfl rfl (by decide) (by decide) (iw iT_12) rfl rfl (tw W_817) kv0 dX12_climb_84 ?_
      exact j_ireturn E ⟨hx, hZ, _, rfl, h⟩ (Nat.zero_le _) (Nat.zero_le _) dX12_climb_87
    · have h := h.2 c1
      refine j_aload_n E dX12_climb_66 0 rfl ?_
      refine j_aload_n E dX12_climb_67 0 rfl ?_
      obtain ⟨b2, eb2, kb2, lb2⟩ := sh_f hZ kv0 (j := 44) (k := 14) (m := 24) rfl
      have h := h b2 eb2
      refine j_getr E 12 44 rfl rfl (by decide) (by decide) (iw iT_12) rfl rfl (tw W_815) kv0 eb2 dX12_climb_68 ?_
      refine j_iload_n E dX12_climb_71 1 rfl ?_
      obtain ⟨o3, h⟩ := h
      refine j_iald E kb2 (by rw [lb2]; exact o3) dX12_climb_72 ?_
      refine j_i2l E dX12_climb_73 ?_
      refine j_callV E [.long ((I b2 v2.toNatClampNeg).toInt64)] [] (c_X12_tell (gL G) (gD G) (gY G) v0 ((I b2 v2.toNatClampNeg).toInt64) Z I L _ hZ kv0 h) (gwV W_784 W_785 W_786 W_679 W_783) rfl ⟨rfl, fy_X12_tell⟩ ⟨by decide, by decide⟩ (c := 12) rfl (by decide) kv0 rfl rfl (Nat.le_of_ble_eq_true rfl) ⟨Nat.zero_le _, Nat.zero_le _⟩ dX12_climb_74 (fun v4 Z5 I6 L7 q8 => ?_)
      obtain ⟨rfl, rfl, h⟩ := q8
      show jJ G 3 77 [(0, .ref v0), (2, .int v2)] [] Z I6 L7 0 0
      obtain ⟨x9, ex9⟩ : ∃ y : Int32, y = v2 + 1 := ⟨_, rfl⟩
      have h := h x9 ex9
      refine j_iinc E x9 [(2, .int x9), (0, .ref v0)] dX12_climb_77 1 rfl (by rw [ex9]; rfl) (by decide) rfl ?_
      refine j_goto E 58 dX12_climb_80 (by decide) ?_
      refine j_sub [1, 0] rfl ?_
      exact hK58 v0 x9 Z I6 L7 hZ hx kv0 h
set_option maxRecDepth 100000 in
def f_X12_climb (v0 : Nat) (v1 : Int32) (Z : jZ) (I : jI) (L : jL) (Q : Int32 → jZ → jI → jL → Prop) : Prop := (∀ I10 : jI, I10 = jpI I v0 22 (0 : Int32) → (f_X12_isOne v0 v1 Z I10 L (fun r16 I13 L14 => ((r16 = 0 → Q (-1 : Int32) Z I13 L14) ∧ (¬ (r16 = 0) → ((¬ (I13 v0 0) = 0 → (f_X12_findClimb v0 v1 Z I13 L14 (fun r24 Z20 I21 L22 => ((¬ r24 = 0 → (∀ I27 : jI, I27 = jpI I21 v0 21 (0 : Int32) → (f_X12_tell v0 ((I27 v0 42).toInt64) Z20 I27 L22 (fun I30 L31 => (f_X12_tell v0 ((I30 v0 43).toInt64) Z20 I30 L31 (fun I35 L36 => (∃ m58 : Nat, f_X12_climb_L58  Q m58 v0 (0 : Int32) Z20 I35 L36))))))) ∧ (r24 = 0 → Q (-2 : Int32) Z20 I21 L22))))) ∧ ((I13 v0 0) = 0 → Q (-1 : Int32) Z I13 L14)))))))
set_option maxHeartbeats 4000000 in
set_option maxRecDepth 100000 in
theorem c_X12_climb (l : Launch) (D : va_G) (cy : jC) (v0 : Nat) (v1 : Int32) (Z : jZ) (I : jI) (L : jL) (Q : Int32 → jZ → jI → jL → Prop) (hZ : SH Z) (kv0 : jk Z v0 12) (h : f_X12_climb v0 v1 Z I L Q) : jCt l yX12_climb w_X12_climb { frames := 5, cells := 0, slots := 0, locals := 124 } D cy [.ref v0, .int v1] Z I L (xrtI Z Q) := by
  refine jCt_of (cc := cX12_climb) (maxL := 3) (ret := (some .int)) (by decide +kernel) rfl (Nat.le_of_ble_eq_true rfl) ?_
  intro G eD eY eL E
  subst eD; subst eY; subst eL
  have E : jE G cX12_climb RX12 w_X12_climb 3 (some .int) { frames := 5, cells := 0, slots := 0, locals := 124 } (xrtI Z Q) := E
  have hx : jext Z Z := jext_rfl
  show jJ G 3 0 [(0, .ref v0), (1, .int v1)] [] Z I L 0 0
  refine j_aload_n E dX12_climb_0 0 rfl ?_
  refine j_iconst E (v := 0) dX12_climb_1 (by decide) ?_
  refine j_puti E 12 22 rfl rfl (by decide) (by decide) (iw iT_12) tyX12_ok nmX12 rfl rfl (tw W_674) rfl rfl rfl kv0 dX12_climb_2 ?_
  refine j_nmI (fun I10 eI10 => ?_)
  have h := h I10 eI10
  refine j_aload_n E dX12_climb_5 0 rfl ?_
  refine j_iload_n E dX12_climb_6 1 rfl ?_
  refine j_callV E [.int v1] [] (c_X12_isOne (gL G) (gD G) (gY G) v0 v1 Z I10 L _ hZ kv0 h) (gwV W_768 W_769 W_770 W_679 W_767) rfl ⟨rfl, fy_X12_isOne⟩ ⟨by decide, by decide⟩ (c := 12) rfl (by decide) kv0 rfl rfl (Nat.le_of_ble_eq_true rfl) ⟨Nat.zero_le _, Nat.zero_le _⟩ dX12_climb_7 (fun v11 Z12 I13 L14 q15 => ?_)
  obtain ⟨rfl, r16, rfl, zr16, h⟩ := q15
  show jJ G 3 10 [(0, .ref v0), (1, .int v1)] [.int r16] Z I13 L14 0 0
  refine j_if_eq E 20 dX12_climb_10 (by decide) (fun c17 => ?_) (fun c17 => ?_)
  · have h := h.1 c17
    refine j_iconst E (v := -1) dX12_climb_20 (by decide) ?_
    exact j_ireturn E ⟨hx, hZ, _, rfl, h⟩ (Nat.zero_le _) (Nat.zero_le _) dX12_climb_21
  · have h := h.2 c17
    refine j_aload_n E dX12_climb_13 0 rfl ?_
    refine j_geti E 12 0 rfl rfl (by decide) (by decide) (iw iT_12) rfl rfl (tw W_677) kv0 dX12_climb_14 ?_
    refine j_if_ne E 22 dX12_climb_17 (by decide) (fun c18 => ?_) (fun c18 => ?_)
    · have h := h.1 c18
      refine j_aload_n E dX12_climb_22 0 rfl ?_
      refine j_iload_n E dX12_climb_23 1 rfl ?_
      refine j_callV E [.int v1] [] (c_X12_findClimb (gL G) (gD G) (gY G) v0 v1 Z I13 L14 _ hZ kv0 h) (gwV W_828 W_829 W_830 W_679 W_827) rfl ⟨rfl, fy_X12_findClimb⟩ ⟨by decide, by decide⟩ (c := 12) rfl (by decide) kv0 rfl rfl (Nat.le_of_ble_eq_true rfl) ⟨Nat.zero_le _, Nat.zero_le _⟩ dX12_climb_24 (fun v19 Z20 I21 L22 q23 => ?_)
      obtain ⟨yZ20, hZ20, r24, rfl, zr24, h⟩ := q23
      have hZ := hZ20
      have hx : jext Z Z20 := jext_trans hx yZ20
      have k25 := (yZ20 _ _ kv0).1
      show jJ G 3 27 [(0, .ref v0), (1, .int v1)] [.int r24] Z20 I21 L22 0 0
      refine j_if_ne E 33 dX12_climb_27 (by decide) (fun c26 => ?_) (fun c26 => ?_)
      · have h := h.1 c26
        refine j_aload_n E dX12_climb_33 0 rfl ?_
        refine j_iconst E (v := 0) dX12_climb_34 (by decide) ?_
        refine j_puti E 12 21 rfl rfl (by decide) (by decide) (iw iT_12) tyX12_ok nmX12 rfl rfl (tw W_676) rfl rfl rfl k25 dX12_climb_35 ?_
        refine j_nmI (fun I27 eI27 => ?_)
        have h := h I27 eI27
        refine j_aload_n E dX12_climb_38 0 rfl ?_
        refine j_aload_n E dX12_climb_39 0 rfl ?_
        refine j_geti E 12 42 rfl rfl (by decide) (by decide) (iw iT_12) rfl rfl (tw W_818) k25 dX12_climb_40 ?_
        refine j_i2l E dX12_climb_43 ?_
        refine j_callV E [.long ((I27 v0 42).toInt64)] [] (c_X12_tell (gL G) (gD G) (gY G) v0 ((I27 v0 42).toInt64) Z20 I27 L22 _ hZ k25 h) (gwV W_784 W_785 W_786 W_679 W_783) rfl ⟨rfl, fy_X12_tell⟩ ⟨by decide, by decide⟩ (c := 12) rfl (by decide) k25 rfl rfl (Nat.le_of_ble_eq_true rfl) ⟨Nat.zero_le _, Nat.zero_le _⟩ dX12_climb_44 (fun v28 Z29 I30 L31 q32 => ?_)
        obtain ⟨rfl, rfl, h⟩ := q32
        show jJ G 3 47 [(0, .ref v0), (1, .int v1)] [] Z20 I30 L31 0 0
        refine j_aload_n E dX12_climb_47 0 rfl ?_
        refine j_aload_n E dX12_climb_48 0 rfl ?_
        refine j_geti E 12 43 rfl rfl (by decide) (by decide) (iw iT_12) rfl rfl (tw W_816) k25 dX12_climb_49 ?_
        refine j_i2l E dX12_climb_52 ?_
        refine j_callV E [.long ((I30 v0 43).toInt64)] [] (c_X12_tell (gL G) (gD G) (gY G) v0 ((I30 v0 43).toInt64) Z20 I30 L31 _ hZ k25 h) (gwV W_784 W_785 W_786 W_679 W_783) rfl ⟨rfl, fy_X12_tell⟩ ⟨by decide, by decide⟩ (c := 12) rfl (by decide) k25 rfl rfl (Nat.le_of_ble_eq_true rfl) ⟨Nat.zero_le _, Nat.zero_le _⟩ dX12_climb_53 (fun v33 Z34 I35 L36 q37 => ?_)
        obtain ⟨rfl, rfl, h⟩ := q37
        show jJ G 3 56 [(0, .ref v0), (1, .int v1)] [] Z20 I35 L36 0 0
        refine j_iconst E (v := 0) dX12_climb_56 (by decide) ?_
        refine j_istore_n E 2 [(2, .int (0 : Int32)), (0, .ref v0), (1, .int v1)] dX12_climb_57 rfl (by decide) rfl ?_
        obtain ⟨n38, h⟩ := h
        refine j_sub [1, 0] rfl ?_
        exact m_X12_climb_L58 E  n38 v0 (0 : Int32) Z20 I35 L36 hZ hx k25 h
      · have h := h.2 c26
        refine j_bipush E (v := -2) dX12_climb_30 (by decide) ?_
        exact j_ireturn E ⟨hx, hZ, _, rfl, h⟩ (Nat.zero_le _) (Nat.zero_le _) dX12_climb_32
    · have h := h.2 c18
      refine j_iconst E (v := -1) dX12_climb_20 (by decide) ?_
      exact j_ireturn E ⟨hx, hZ, _, rfl, h⟩ (Nat.zero_le _) (Nat.zero_le _) dX12_climb_21
set_option maxRecDepth 100000 in
def f_X12_knees_b97 (K36 : Nat → Int32 → Int32 → jZ → jI → jL → Prop) (Q : Int32 → jZ → jI → jL → Prop) (v0 : Nat) (v1 : Int32) (v2 : Int32) (Z : jZ) (I : jI) (L : jL) : Prop := (∀ x1 : Int32, x1 = v2 + 1 → K36 v0 v1 x1 Z I L)
set_option maxHeartbeats 4000000 in
set_option maxRecDepth 100000 in
theorem m_X12_knees_b97 {G : jG} {Z0 : jZ} {Q : Int32 → jZ → jI → jL → Prop} (E : jE G cX12_knees RX12 w_X12_knees 3 (some .int) { frames := 4, cells := 0, slots := 0, locals := 99 } (xrtI Z0 Q)) (K36 : Nat → Int32 → Int32 → jZ → jI → jL → Prop) (hK36 : ∀ (v0 : Nat) (v1 : Int32) (v2 : Int32) (Z : jZ) (I : jI) (L : jL), SH Z → jext Z0 Z → jk Z v0 12 → K36 v0 v1 v2 Z I L → jJ G 3 36 [(0, .ref v0), (1, .int v1), (2, .int v2)] [] Z I L 0 0) (v0 : Nat) (v1 : Int32) (v2 : Int32) (Z : jZ) (I : jI) (L : jL) (hZ : SH Z) (hx : jext Z0 Z) (kv0 : jk Z v0 12) (h : f_X12_knees_b97 K36 Q v0 v1 v2 Z I L) : jJ G 3 97 [(0, .ref v0), (1, .int v1), (2, .int v2)] [] Z I L 0 0 := by
  obtain ⟨x1, ex1⟩ : ∃ y : Int32, y = v2 + 1 := ⟨_, rfl⟩
  have h := h x1 ex1
  refine j_iinc E x1 [(2, .int x1), (0, .ref v0), (1, .int v1)] dX12_knees_97 2 rfl (by rw [ex1]; rfl) (by decide) rfl ?_
  refine j_goto E 36 dX12_knees_100 (by decide) ?_
  refine j_sub [1, 2, 0] rfl ?_
  exact hK36 v0 v1 x1 Z I L hZ hx kv0 h
set_option maxRecDepth 100000 in
def f_X12_knees_L36  (Q : Int32 → jZ → jI → jL → Prop) : Nat → Nat → Int32 → Int32 → jZ → jI → jL → Prop
  | 0 => fun _ _ _ _ _ _ => False
  | n + 1 => fun v0 v1 v2 Z I L => (((999 : Int32) < v2 → Q (-2 : Int32) Z I L) ∧ (¬ ((999 : Int32) < v2) → (∀ b3 : Nat, jr Z v0 40 = some b3 → (vp_in v2 25000 ∧ (((I b3 v2.toNatClampNeg) = (1000000000 : Int32) → f_X12_knees_b97 (f_X12_knees_L36 Q n) Q v0 v1 v2 Z I L) ∧ (¬ ((I b3 v2.toNatClampNeg) = (1000000000 : Int32)) → (∀ b6 : Nat, jr Z v0 40 = some b6 → (vp_in v2 25000 ∧ (∀ b8 : Nat, jr Z v0 10 = some b8 → (vp_in v1 6 ∧ ((((I b6 v2.toNatClampNeg) / (100 : Int32)) ≤ (I b8 v1.toNatClampNeg) → (∀ I11 : jI, I11 = jpI I v0 21 (0 : Int32) → (∀ b12 : Nat, jr Z v0 40 = some b12 → (vp_in v2 25000 ∧ (f_X12_tell v0 (((I11 b12 v2.toNatClampNeg) / (100 : Int32)).toInt64) Z I11 L (fun I16 L17 => Q v2 Z I16 L17)))))) ∧ (¬ (((I b6 v2.toNatClampNeg) / (100 : Int32)) ≤ (I b8 v1.toNatClampNeg)) → f_X12_knees_b97 (f_X12_knees_L36 Q n) Q v0 v1 v2 Z I L))))))))))))
set_option maxHeartbeats 4000000 in
set_option maxRecDepth 100000 in
theorem m_X12_knees_L36 {G : jG} {Z0 : jZ} {Q : Int32 → jZ → jI → jL → Prop} (E : jE G cX12_knees RX12 w_X12_knees 3 (some .int) { frames := 4, cells := 0, slots := 0, locals := 99 } (xrtI Z0 Q))  : ∀ (n : Nat) (v0 : Nat) (v1 : Int32) (v2 : Int32) (Z : jZ) (I : jI) (L : jL), SH Z → jext Z0 Z → jk Z v0 12 → f_X12_knees_L36  Q n v0 v1 v2 Z I L → jJ G 3 36 [(0, .ref v0), (1, .int v1), (2, .int v2)] [] Z I L 0 0 := by
  intro n
  induction n with
  | zero => intro v0 v1 v2 Z I L _ _ _ h; exact h.elim
  | succ n ih =>
    intro v0 v1 v2 Z I L hZ hx kv0 h
    have h : (((999 : Int32) < v2 → Q (-2 : Int32) Z I L) ∧ (¬ ((999 : Int32) < v2) → (∀ b3 : Nat, jr Z v0 40 = some b3 → (vp_in v2 25000 ∧ (((I b3 v2.toNatClampNeg) = (1000000000 : Int32) → f_X12_knees_b97 (f_X12_knees_L36 Q n) Q v0 v1 v2 Z I L) ∧ (¬ ((I b3 v2.toNatClampNeg) = (1000000000 : Int32)) → (∀ b6 : Nat, jr Z v0 40 = some b6 → (vp_in v2 25000 ∧ (∀ b8 : Nat, jr Z v0 10 = some b8 → (vp_in v1 6 ∧ ((((I b6 v2.toNatClampNeg) / (100 : Int32)) ≤ (I b8 v1.toNatClampNeg) → (∀ I11 : jI, I11 = jpI I v0 21 (0 : Int32) → (∀ b12 : Nat, jr Z v0 40 = some b12 → (vp_in v2 25000 ∧ (f_X12_tell v0 (((I11 b12 v2.toNatClampNeg) / (100 : Int32)).toInt64) Z I11 L (fun I16 L17 => Q v2 Z I16 L17)))))) ∧ (¬ (((I b6 v2.toNatClampNeg) / (100 : Int32)) ≤ (I b8 v1.toNatClampNeg)) → f_X12_knees_b97 (f_X12_knees_L36 Q n) Q v0 v1 v2 Z I L)))))))))))) := h
    obtain ⟨K36, eK36⟩ : ∃ K : Nat → Int32 → Int32 → jZ → jI → jL → Prop, K = f_X12_knees_L36  Q n := ⟨_, rfl⟩
    have hK36 := ih
    clear eK36 K36
    generalize f_X12_knees_L36  Q n = K36 at hK36 h
    refine j_iload_n E dX12_knees_36 2 rfl ?_
    refine j_sipush E (v := 999) dX12_knees_37 (by decide) ?_
    refine j_icmp_gt E 103 dX12_knees_40 (by decide) (fun c2 => ?_) (fun c2 => ?_)
    · have h := h.1 c2
      refine j_bipush E (v := -2) dX12_knees_103 (by decide) ?_
      exact j_ireturn E ⟨hx, hZ, _, rfl, h⟩ (Nat.zero_le _) (Nat.zero_le _) dX12_knees_105
    · have h := h.2 c2
      refine j_aload_n E dX12_knees_43 0 rfl ?_
      obtain ⟨b3, eb3, kb3, lb3⟩ := sh_f hZ kv0 (j := 40) (k := 14) (m := 25000) rfl
      have h := h b3 eb3
      refine j_getr E 12 40 rfl rfl (by decide) (by decide) (iw iT_12) rfl rfl (tw W_810) kv0 eb3 dX12_knees_44 ?_
      refine j_iload_n E dX12_knees_47 2 rfl ?_
      obtain ⟨o4, h⟩ := h
      refine j_iald E kb3 (by rw [lb3]; exact o4) dX12_knees_48 ?_
      refine j_ldcw E (tw W_807) dX12_knees_49 ?_
      refine j_icmp_eq E 97 dX12_knees_52 (by decide) (fun c5 => ?_) (fun c5 => ?_)
      · have h := h.1 c5
        refine j_sub [0, 1, 2] rfl ?_
        exact m_X12_knees_b97 E K36 hK36 v0 v1 v2 Z I L hZ hx kv0 h
      · have h := h.2 c5
        refine j_aload_n E dX12_knees_55 0 rfl ?_
        obtain ⟨b6, eb6, kb6, lb6⟩ := sh_f hZ kv0 (j := 40) (k := 14) (m := 25000) rfl
        have h := h b6 eb6
        refine j_getr E 12 40 rfl rfl (by decide) (by decide) (iw iT_12) rfl rfl (tw W_810) kv0 eb6 dX12_knees_56 ?_
        refine j_iload_n E dX12_knees_59 2 rfl ?_
        obtain ⟨o7, h⟩ := h
        refine j_iald E kb6 (by rw [lb6]; exact o7) dX12_knees_60 ?_
        refine j_bipush E (v := 100) dX12_knees_61 (by decide) ?_
        refine j_idiv E dX12_knees_63 (by decide) ?_
        refine j_aload_n E dX12_knees_64 0 rfl ?_
        obtain ⟨b8, eb8, kb8, lb8⟩ := sh_f hZ kv0 (j := 10) (k := 14) (m := 6) rfl
        have h := h b8 eb8
        refine j_getr E 12 10 rfl rfl (by decide) (by decide) (iw iT_12) rfl rfl (tw W_720) kv0 eb8 dX12_knees_65 ?_
        refine j_iload_n E dX12_knees_68 1 rfl ?_
        obtain ⟨o9, h⟩ := h
        refine j_iald E kb8 (by rw [lb8]; exact o9) dX12_knees_69 ?_
        refine j_icmp_le E 76 dX12_knees_70 (by decide) (fun c10 => ?_) (fun c10 => ?_)
        · have h := h.1 c10
          refine j_aload_n E dX12_knees_76 0 rfl ?_
          refine j_iconst E (v := 0) dX12_knees_77 (by decide) ?_
          refine j_puti E 12 21 rfl rfl (by decide) (by decide) (iw iT_12) tyX12_ok nmX12 rfl rfl (tw W_676) rfl rfl rfl kv0 dX12_knees_78 ?_
          refine j_nmI (fun I11 eI11 => ?_)
          have h := h I11 eI11
          refine j_aload_n E dX12_knees_81 0 rfl ?_
          refine j_aload_n E dX12_knees_82 0 rfl ?_
          obtain ⟨b12, eb12, kb12, lb12⟩ := sh_f hZ kv0 (j := 40) (k := 14) (m := 25000) rfl
          have h := h b12 eb12
          refine j_getr E 12 40 rfl rfl (by decide) (by decide) (iw iT_12) rfl rfl (tw W_810) kv0 eb12 dX12_knees_83 ?_
          refine j_iload_n E dX12_knees_86 2 rfl ?_
          obtain ⟨o13, h⟩ := h
          refine j_iald E kb12 (by rw [lb12]; exact o13) dX12_knees_87 ?_
          refine j_bipush E (v := 100) dX12_knees_88 (by decide) ?_
          refine j_idiv E dX12_knees_90 (by decide) ?_
          refine j_i2l E dX12_knees_91 ?_
          refine j_callV E [.long (((I11 b12 v2.toNatClampNeg) / (100 : Int32)).toInt64)] [] (c_X12_tell (gL G) (gD G) (gY G) v0 (((I11 b12 v2.toNatClampNeg) / (100 : Int32)).toInt64) Z I11 L _ hZ kv0 h) (gwV W_784 W_785 W_786 W_679 W_783) rfl ⟨rfl, fy_X12_tell⟩ ⟨by decide, by decide⟩ (c := 12) rfl (by decide) kv0 rfl rfl (Nat.le_of_ble_eq_true rfl) ⟨Nat.zero_le _, Nat.zero_le _⟩ dX12_knees_92 (fun v14 Z15 I16 L17 q18 => ?_)
          obtain ⟨rfl, rfl, h⟩ := q18
          show jJ G 3 95 [(0, .ref v0), (1, .int v1), (2, .int v2)] [] Z I16 L17 0 0
          refine j_iload_n E dX12_knees_95 2 rfl ?_
          exact j_ireturn E ⟨hx, hZ, _, rfl, h⟩ (Nat.zero_le _) (Nat.zero_le _) dX12_knees_96
        · have h := h.2 c10
          refine j_goto E 97 dX12_knees_73 (by decide) ?_
          refine j_sub [0, 1, 2] rfl ?_
          exact m_X12_knees_b97 E K36 hK36 v0 v1 v2 Z I L hZ hx kv0 h
set_option maxRecDepth 100000 in
def f_X12_knees (v0 : Nat) (v1 : Int32) (Z : jZ) (I : jI) (L : jL) (Q : Int32 → jZ → jI → jL → Prop) : Prop := (∀ I19 : jI, I19 = jpI I v0 22 (0 : Int32) → (f_X12_isOne v0 v1 Z I19 L (fun r25 I22 L23 => ((r25 = 0 → Q (-1 : Int32) Z I22 L23) ∧ (¬ (r25 = 0) → ((¬ (I22 v0 0) = 0 → (f_X12_layMoves v0 v1 Z I22 L23 (fun Z29 I30 L31 => (f_X12_findByEffort v0 (999 : Int32) Z29 I30 L31 (fun I36 L37 => (∃ m36 : Nat, f_X12_knees_L36  Q m36 v0 v1 (0 : Int32) Z29 I36 L37)))))) ∧ ((I22 v0 0) = 0 → Q (-1 : Int32) Z I22 L23)))))))
set_option maxHeartbeats 4000000 in
set_option maxRecDepth 100000 in
theorem c_X12_knees (l : Launch) (D : va_G) (cy : jC) (v0 : Nat) (v1 : Int32) (Z : jZ) (I : jI) (L : jL) (Q : Int32 → jZ → jI → jL → Prop) (hZ : SH Z) (kv0 : jk Z v0 12) (h : f_X12_knees v0 v1 Z I L Q) : jCt l yX12_knees w_X12_knees { frames := 4, cells := 0, slots := 0, locals := 99 } D cy [.ref v0, .int v1] Z I L (xrtI Z Q) := by
  refine jCt_of (cc := cX12_knees) (maxL := 3) (ret := (some .int)) (by decide +kernel) rfl (Nat.le_of_ble_eq_true rfl) ?_
  intro G eD eY eL E
  subst eD; subst eY; subst eL
  have E : jE G cX12_knees RX12 w_X12_knees 3 (some .int) { frames := 4, cells := 0, slots := 0, locals := 99 } (xrtI Z Q) := E
  have hx : jext Z Z := jext_rfl
  show jJ G 3 0 [(0, .ref v0), (1, .int v1)] [] Z I L 0 0
  refine j_aload_n E dX12_knees_0 0 rfl ?_
  refine j_iconst E (v := 0) dX12_knees_1 (by decide) ?_
  refine j_puti E 12 22 rfl rfl (by decide) (by decide) (iw iT_12) tyX12_ok nmX12 rfl rfl (tw W_674) rfl rfl rfl kv0 dX12_knees_2 ?_
  refine j_nmI (fun I19 eI19 => ?_)
  have h := h I19 eI19
  refine j_aload_n E dX12_knees_5 0 rfl ?_
  refine j_iload_n E dX12_knees_6 1 rfl ?_
  refine j_callV E [.int v1] [] (c_X12_isOne (gL G) (gD G) (gY G) v0 v1 Z I19 L _ hZ kv0 h) (gwV W_768 W_769 W_770 W_679 W_767) rfl ⟨rfl, fy_X12_isOne⟩ ⟨by decide, by decide⟩ (c := 12) rfl (by decide) kv0 rfl rfl (Nat.le_of_ble_eq_true rfl) ⟨Nat.zero_le _, Nat.zero_le _⟩ dX12_knees_7 (fun v20 Z21 I22 L23 q24 => ?_)
  obtain ⟨rfl, r25, rfl, zr25, h⟩ := q24
  show jJ G 3 10 [(0, .ref v0), (1, .int v1)] [.int r25] Z I22 L23 0 0
  refine j_if_eq E 20 dX12_knees_10 (by decide) (fun c26 => ?_) (fun c26 => ?_)
  · have h := h.1 c26
    refine j_iconst E (v := -1) dX12_knees_20 (by decide) ?_
    exact j_ireturn E ⟨hx, hZ, _, rfl, h⟩ (Nat.zero_le _) (Nat.zero_le _) dX12_knees_21
  · have h := h.2 c26
    refine j_aload_n E dX12_knees_13 0 rfl ?_
    refine j_geti E 12 0 rfl rfl (by decide) (by decide) (iw iT_12) rfl rfl (tw W_677) kv0 dX12_knees_14 ?_
    refine j_if_ne E 22 dX12_knees_17 (by decide) (fun c27 => ?_) (fun c27 => ?_)
    · have h := h.1 c27
      refine j_aload_n E dX12_knees_22 0 rfl ?_
      refine j_iload_n E dX12_knees_23 1 rfl ?_
      refine j_callV E [.int v1] [] (c_X12_layMoves (gL G) (gD G) (gY G) v0 v1 Z I22 L23 _ hZ kv0 h) (gwV W_820 W_821 W_822 W_679 W_819) rfl ⟨rfl, fy_X12_layMoves⟩ ⟨by decide, by decide⟩ (c := 12) rfl (by decide) kv0 rfl rfl (Nat.le_of_ble_eq_true rfl) ⟨Nat.zero_le _, Nat.zero_le _⟩ dX12_knees_24 (fun v28 Z29 I30 L31 q32 => ?_)
      obtain ⟨yZ29, hZ29, rfl, h⟩ := q32
      have hZ := hZ29
      have hx : jext Z Z29 := jext_trans hx yZ29
      have k33 := (yZ29 _ _ kv0).1
      show jJ G 3 27 [(0, .ref v0), (1, .int v1)] [] Z29 I30 L31 0 0
      refine j_aload_n E dX12_knees_27 0 rfl ?_
      refine j_sipush E (v := 999) dX12_knees_28 (by decide) ?_
      refine j_callV E [.int (999 : Int32)] [] (c_X12_findByEffort (gL G) (gD G) (gY G) v0 (999 : Int32) Z29 I30 L31 _ hZ k33 h) (gwV W_824 W_825 W_826 W_679 W_823) rfl ⟨rfl, fy_X12_findByEffort⟩ ⟨by decide, by decide⟩ (c := 12) rfl (by decide) k33 rfl rfl (Nat.le_of_ble_eq_true rfl) ⟨Nat.zero_le _, Nat.zero_le _⟩ dX12_knees_31 (fun v34 Z35 I36 L37 q38 => ?_)
      obtain ⟨rfl, rfl, h⟩ := q38
      show jJ G 3 34 [(0, .ref v0), (1, .int v1)] [] Z29 I36 L37 0 0
      refine j_iconst E (v := 0) dX12_knees_34 (by decide) ?_
      refine j_istore_n E 2 [(2, .int (0 : Int32)), (0, .ref v0), (1, .int v1)] dX12_knees_35 rfl (by decide) rfl ?_
      obtain ⟨n39, h⟩ := h
      refine j_sub [1, 2, 0] rfl ?_
      exact m_X12_knees_L36 E  n39 v0 v1 (0 : Int32) Z29 I36 L37 hZ hx k33 h
    · have h := h.2 c27
      refine j_iconst E (v := -1) dX12_knees_20 (by decide) ?_
      exact j_ireturn E ⟨hx, hZ, _, rfl, h⟩ (Nat.zero_le _) (Nat.zero_le _) dX12_knees_21
set_option maxRecDepth 100000 in
def f_X12_countWays_b398 (K338 : Nat → Int32 → Int32 → Int32 → Int32 → Int32 → jZ → jI → jL → Prop) (Q : Int32 → jZ → jI → jL → Prop) (v0 : Nat) (v1 : Int32) (v2 : Int32) (v3 : Int32) (v4 : Int32) (v5 : Int32) (v6 : Int32) (Z : jZ) (I : jI) (L : jL) : Prop := (∀ x1 : Int32, x1 = (v4 + v6) → (∀ x2 : Int32, x2 = v5 + 1 → K338 v0 v1 v2 v3 x1 x2 Z I L))
set_option maxHeartbeats 4000000 in
set_option maxRecDepth 100000 in
theorem m_X12_countWays_b398 {G : jG} {Z0 : jZ} {Q : Int32 → jZ → jI → jL → Prop} (E : jE G cX12_countWays RX12 w_X12_countWays 11 (some .int) { frames := 4, cells := 0, slots := 0, locals := 99 } (xrtI Z0 Q)) (K338 : Nat → Int32 → Int32 → Int32 → Int32 → Int32 → jZ → jI → jL → Prop) (hK338 : ∀ (v0 : Nat) (v1 : Int32) (v2 : Int32) (v3 : Int32) (v4 : Int32) (v5 : Int32) (Z : jZ) (I : jI) (L : jL), SH Z → jext Z0 Z → jk Z v0 12 → K338 v0 v1 v2 v3 v4 v5 Z I L → jJ G 11 338 [(0, .ref v0), (1, .int v1), (2, .int v2), (3, .int v3), (4, .int v4), (5, .int v5)] [] Z I L 0 0) (v0 : Nat) (v1 : Int32) (v2 : Int32) (v3 : Int32) (v4 : Int32) (v5 : Int32) (v6 : Int32) (Z : jZ) (I : jI) (L : jL) (hZ : SH Z) (hx : jext Z0 Z) (kv0 : jk Z v0 12) (h : f_X12_countWays_b398 K338 Q v0 v1 v2 v3 v4 v5 v6 Z I L) : jJ G 11 398 [(0, .ref v0), (1, .int v1), (2, .int v2), (3, .int v3), (4, .int v4), (5, .int v5), (6, .int v6)] [] Z I L 0 0 := by
  refine j_iload E dX12_countWays_398 4 rfl ?_
  refine j_iload E dX12_countWays_400 6 rfl ?_
  refine j_iadd E dX12_countWays_402 ?_
  refine j_topi (fun x1 ex1 => ?_)
  have h := h x1 ex1
  refine j_istore E 4 [(4, .int x1), (0, .ref v0), (1, .int v1), (2, .int v2), (3, .int v3), (5, .int v5), (6, .int v6)] dX12_countWays_403 (by decide) rfl ?_
  obtain ⟨x2, ex2⟩ : ∃ y : Int32, y = v5 + 1 := ⟨_, rfl⟩
  have h := h x2 ex2
  refine j_iinc E x2 [(5, .int x2), (4, .int x1), (0, .ref v0), (1, .int v1), (2, .int v2), (3, .int v3), (6, .int v6)] dX12_countWays_405 5 rfl (by rw [ex2]; rfl) (by decide) rfl ?_
  refine j_goto E 338 dX12_countWays_408 (by decide) ?_
  refine j_sub [2, 3, 4, 5, 1, 0] rfl ?_
  exact hK338 v0 v1 v2 v3 x1 x2 Z I L hZ hx kv0 h
set_option maxRecDepth 100000 in
def f_X12_countWays_L338  (Q : Int32 → jZ → jI → jL → Prop) : Nat → Nat → Int32 → Int32 → Int32 → Int32 → Int32 → jZ → jI → jL → Prop
  | 0 => fun _ _ _ _ _ _ _ _ _ => False
  | n + 1 => fun v0 v1 v2 v3 v4 v5 Z I L => (∀ b3 : Nat, jr Z v0 9 = some b3 → (vp_in v1 6 ∧ (((I b3 v1.toNatClampNeg) < v5 → Q v4 Z I L) ∧ (¬ ((I b3 v1.toNatClampNeg) < v5) → (∀ b6 : Nat, jr Z v0 45 = some b6 → (vp_in ((((((I v0 0) - (I v0 0) / (4 : Int32) * (4 : Int32)) * v3) + v5) * (1000 : Int32)) + v2) 484000 ∧ (∀ x8 : Int32, x8 = (I b6 ((((((I v0 0) - (I v0 0) / (4 : Int32) * (4 : Int32)) * v3) + v5) * (1000 : Int32)) + v2).toNatClampNeg) → ((x8 ≤ 0 → f_X12_countWays_b398 (f_X12_countWays_L338 Q n) Q v0 v1 v2 v3 v4 v5 x8 Z I L) ∧ (¬ (x8 ≤ 0) → ((¬ (I v0 46) = (-1 : Int32) → f_X12_countWays_b398 (f_X12_countWays_L338 Q n) Q v0 v1 v2 v3 v4 v5 x8 Z I L) ∧ ((I v0 46) = (-1 : Int32) → (∀ I11 : jI, I11 = jpI I v0 46 v5 → (∀ I12 : jI, I12 = jpI I11 v0 47 x8 → f_X12_countWays_b398 (f_X12_countWays_L338 Q n) Q v0 v1 v2 v3 v4 v5 x8 Z I12 L)))))))))))))
set_option maxHeartbeats 4000000 in
set_option maxRecDepth 100000 in
theorem m_X12_countWays_L338 {G : jG} {Z0 : jZ} {Q : Int32 → jZ → jI → jL → Prop} (E : jE G cX12_countWays RX12 w_X12_countWays 11 (some .int) { frames := 4, cells := 0, slots := 0, locals := 99 } (xrtI Z0 Q))  : ∀ (n : Nat) (v0 : Nat) (v1 : Int32) (v2 : Int32) (v3 : Int32) (v4 : Int32) (v5 : Int32) (Z : jZ) (I : jI) (L : jL), SH Z → jext Z0 Z → jk Z v0 12 → f_X12_countWays_L338  Q n v0 v1 v2 v3 v4 v5 Z I L → jJ G 11 338 [(0, .ref v0), (1, .int v1), (2, .int v2), (3, .int v3), (4, .int v4), (5, .int v5)] [] Z I L 0 0 := by
  intro n
  induction n with
  | zero => intro v0 v1 v2 v3 v4 v5 Z I L _ _ _ h; exact h.elim
  | succ n ih =>
    intro v0 v1 v2 v3 v4 v5 Z I L hZ hx kv0 h
    have h : (∀ b3 : Nat, jr Z v0 9 = some b3 → (vp_in v1 6 ∧ (((I b3 v1.toNatClampNeg) < v5 → Q v4 Z I L) ∧ (¬ ((I b3 v1.toNatClampNeg) < v5) → (∀ b6 : Nat, jr Z v0 45 = some b6 → (vp_in ((((((I v0 0) - (I v0 0) / (4 : Int32) * (4 : Int32)) * v3) + v5) * (1000 : Int32)) + v2) 484000 ∧ (∀ x8 : Int32, x8 = (I b6 ((((((I v0 0) - (I v0 0) / (4 : Int32) * (4 : Int32)) * v3) + v5) * (1000 : Int32)) + v2).toNatClampNeg) → ((x8 ≤ 0 → f_X12_countWays_b398 (f_X12_countWays_L338 Q n) Q v0 v1 v2 v3 v4 v5 x8 Z I L) ∧ (¬ (x8 ≤ 0) → ((¬ (I v0 46) = (-1 : Int32) → f_X12_countWays_b398 (f_X12_countWays_L338 Q n) Q v0 v1 v2 v3 v4 v5 x8 Z I L) ∧ ((I v0 46) = (-1 : Int32) → (∀ I11 : jI, I11 = jpI I v0 46 v5 → (∀ I12 : jI, I12 = jpI I11 v0 47 x8 → f_X12_countWays_b398 (f_X12_countWays_L338 Q n) Q v0 v1 v2 v3 v4 v5 x8 Z I12 L))))))))))))) := h
    obtain ⟨K338, eK338⟩ : ∃ K : Nat → Int32 → Int32 → Int32 → Int32 → Int32 → jZ → jI → jL → Prop, K = f_X12_countWays_L338  Q n := ⟨_, rfl⟩
    have hK338 := ih
    clear eK338 K338
    generalize f_X12_countWays_L338  Q n = K338 at hK338 h
    refine j_iload E dX12_countWays_338 5 rfl ?_
    refine j_aload_n E dX12_countWays_340 0 rfl ?_
    obtain ⟨b3, eb3, kb3, lb3⟩ := sh_f hZ kv0 (j := 9) (k := 14) (m := 6) rfl
    have h := h b3 eb3
    refine j_getr E 12 9 rfl rfl (by decide) (by decide) (iw iT_12) rfl rfl (tw W_718) kv0 eb3 dX12_countWays_341 ?_
    refine j_iload_n E dX12_countWays_344 1 rfl ?_
    obtain ⟨o4, h⟩ := h
    refine j_iald E kb3 (by rw [lb3]; exact o4) dX12_countWays_345 ?_
    refine j_icmp_gt E 411 dX12_countWays_346 (by decide) (fun c5 => ?_) (fun c5 => ?_)
    · have h := h.1 c5
      refine j_iload E dX12_countWays_411 4 rfl ?_
      exact j_ireturn E ⟨hx, hZ, _, rfl, h⟩ (Nat.zero_le _) (Nat.zero_le _) dX12_countWays_413
    · have h := h.2 c5
      refine j_aload_n E dX12_countWays_349 0 rfl ?_
      obtain ⟨b6, eb6, kb6, lb6⟩ := sh_f hZ kv0 (j := 45) (k := 14) (m := 484000) rfl
      have h := h b6 eb6
      refine j_getr E 12 45 rfl rfl (by decide) (by decide) (iw iT_12) rfl rfl (tw W_831) kv0 eb6 dX12_countWays_350 ?_
      refine j_aload_n E dX12_countWays_353 0 rfl ?_
      refine j_geti E 12 0 rfl rfl (by decide) (by decide) (iw iT_12) rfl rfl (tw W_677) kv0 dX12_countWays_354 ?_
      refine j_iconst E (v := 4) dX12_countWays_357 (by decide) ?_
      refine j_irem E dX12_countWays_358 (by decide) ?_
      refine j_iload_n E dX12_countWays_359 3 rfl ?_
      refine j_imul E dX12_countWays_360 ?_
      refine j_iload E dX12_countWays_361 5 rfl ?_
      refine j_iadd E dX12_countWays_363 ?_
      refine j_sipush E (v := 1000) dX12_countWays_364 (by decide) ?_
      refine j_imul E dX12_countWays_367 ?_
      refine j_iload_n E dX12_countWays_368 2 rfl ?_
      refine j_iadd E dX12_countWays_369 ?_
      obtain ⟨o7, h⟩ := h
      refine j_iald E kb6 (by rw [lb6]; exact o7) dX12_countWays_370 ?_
      refine j_topi (fun x8 ex8 => ?_)
      have h := h x8 ex8
      refine j_istore E 6 [(6, .int x8), (0, .ref v0), (1, .int v1), (2, .int v2), (3, .int v3), (4, .int v4), (5, .int v5)] dX12_countWays_371 (by decide) rfl ?_
      refine j_iload E dX12_countWays_373 0 rfl ?_
      refine j_if_le E 398 dX12_countWays_375 (by decide) (fun c9 => ?_) (fun c9 => ?_)
      · have h := h.1 c9
        refine j_sub [1, 2, 3, 4, 5, 6, 0] rfl ?_
        exact m_X12_countWays_b398 E K338 hK338 v0 v1 v2 v3 v4 v5 x8 Z I L hZ hx kv0 h
      · have h := h.2 c9
        refine j_aload_n E dX12_countWays_378 1 rfl ?_
        refine j_geti E 12 46 rfl rfl (by decide) (by decide) (iw iT_12) rfl rfl (tw W_832) kv0 dX12_countWays_379 ?_
        refine j_iconst E (v := -1) dX12_countWays_382 (by decide) ?_
        refine j_icmp_ne E 398 dX12_countWays_383 (by decide) (fun c10 => ?_) (fun c10 => ?_)
        · have h := h.1 c10
          refine j_sub [1, 2, 3, 4, 5, 6, 0] rfl ?_
          exact m_X12_countWays_b398 E K338 hK338 v0 v1 v2 v3 v4 v5 x8 Z I L hZ hx kv0 h
        · have h := h.2 c10
          refine j_aload_n E dX12_countWays_386 1 rfl ?_
          refine j_iload E dX12_countWays_387 6 rfl ?_
          refine j_puti E 12 46 rfl rfl (by decide) (by decide) (iw iT_12) tyX12_ok nmX12 rfl rfl (tw W_832) rfl rfl rfl kv0 dX12_countWays_389 ?_
          refine j_nmI (fun I11 eI11 => ?_)
          have h := h I11 eI11
          refine j_aload_n E dX12_countWays_392 1 rfl ?_
          refine j_iload E dX12_countWays_393 0 rfl ?_
          refine j_puti E 12 47 rfl rfl (by decide) (by decide) (iw iT_12) tyX12_ok nmX12 rfl rfl (tw W_833) rfl rfl rfl kv0 dX12_countWays_395 ?_
          refine j_nmI (fun I12 eI12 => ?_)
          have h := h I12 eI12
          refine j_sub [1, 2, 3, 4, 5, 6, 0] rfl ?_
          exact m_X12_countWays_b398 E K338 hK338 v0 v1 v2 v3 v4 v5 x8 Z I12 L hZ hx kv0 h
set_option maxRecDepth 100000 in
def f_X12_countWays_b326 (K90 : Nat → Int32 → Int32 → Int32 → Int32 → jZ → jI → jL → Prop) (Q : Int32 → jZ → jI → jL → Prop) (v0 : Nat) (v1 : Int32) (v2 : Int32) (v3 : Int32) (v4 : Int32) (Z : jZ) (I : jI) (L : jL) : Prop := (∀ x13 : Int32, x13 = v4 + 1 → K90 v0 v1 v2 v3 x13 Z I L)
set_option maxHeartbeats 4000000 in
set_option maxRecDepth 100000 in
theorem m_X12_countWays_b326 {G : jG} {Z0 : jZ} {Q : Int32 → jZ → jI → jL → Prop} (E : jE G cX12_countWays RX12 w_X12_countWays 11 (some .int) { frames := 4, cells := 0, slots := 0, locals := 99 } (xrtI Z0 Q)) (K90 : Nat → Int32 → Int32 → Int32 → Int32 → jZ → jI → jL → Prop) (hK90 : ∀ (v0 : Nat) (v1 : Int32) (v2 : Int32) (v3 : Int32) (v4 : Int32) (Z : jZ) (I : jI) (L : jL), SH Z → jext Z0 Z → jk Z v0 12 → K90 v0 v1 v2 v3 v4 Z I L → jJ G 11 90 [(0, .ref v0), (1, .int v1), (2, .int v2), (3, .int v3), (4, .int v4)] [] Z I L 0 0) (v0 : Nat) (v1 : Int32) (v2 : Int32) (v3 : Int32) (v4 : Int32) (Z : jZ) (I : jI) (L : jL) (hZ : SH Z) (hx : jext Z0 Z) (kv0 : jk Z v0 12) (h : f_X12_countWays_b326 K90 Q v0 v1 v2 v3 v4 Z I L) : jJ G 11 326 [(0, .ref v0), (1, .int v1), (2, .int v2), (3, .int v3), (4, .int v4)] [] Z I L 0 0 := by
  obtain ⟨x13, ex13⟩ : ∃ y : Int32, y = v4 + 1 := ⟨_, rfl⟩
  have h := h x13 ex13
  refine j_iinc E x13 [(4, .int x13), (0, .ref v0), (1, .int v1), (2, .int v2), (3, .int v3)] dX12_countWays_326 4 rfl (by rw [ex13]; rfl) (by decide) rfl ?_
  refine j_goto E 90 dX12_countWays_329 (by decide) ?_
  refine j_sub [1, 2, 3, 4, 0] rfl ?_
  exact hK90 v0 v1 v2 v3 x13 Z I L hZ hx kv0 h
set_option maxRecDepth 100000 in
def f_X12_countWays_b320 (K90 : Nat → Int32 → Int32 → Int32 → Int32 → jZ → jI → jL → Prop) (K165 : Nat → Int32 → Int32 → Int32 → Int32 → Int32 → Int32 → jZ → jI → jL → Prop) (Q : Int32 → jZ → jI → jL → Prop) (v0 : Nat) (v1 : Int32) (v2 : Int32) (v3 : Int32) (v4 : Int32) (v5 : Int32) (v6 : Int32) (Z : jZ) (I : jI) (L : jL) : Prop := (∀ x14 : Int32, x14 = v6 + 1 → K165 v0 v1 v2 v3 v4 v5 x14 Z I L)
set_option maxHeartbeats 4000000 in
set_option maxRecDepth 100000 in
theorem m_X12_countWays_b320 {G : jG} {Z0 : jZ} {Q : Int32 → jZ → jI → jL → Prop} (E : jE G cX12_countWays RX12 w_X12_countWays 11 (some .int) { frames := 4, cells := 0, slots := 0, locals := 99 } (xrtI Z0 Q)) (K90 : Nat → Int32 → Int32 → Int32 → Int32 → jZ → jI → jL → Prop) (hK90 : ∀ (v0 : Nat) (v1 : Int32) (v2 : Int32) (v3 : Int32) (v4 : Int32) (Z : jZ) (I : jI) (L : jL), SH Z → jext Z0 Z → jk Z v0 12 → K90 v0 v1 v2 v3 v4 Z I L → jJ G 11 90 [(0, .ref v0), (1, .int v1), (2, .int v2), (3, .int v3), (4, .int v4)] [] Z I L 0 0) (K165 : Nat → Int32 → Int32 → Int32 → Int32 → Int32 → Int32 → jZ → jI → jL → Prop) (hK165 : ∀ (v0 : Nat) (v1 : Int32) (v2 : Int32) (v3 : Int32) (v4 : Int32) (v5 : Int32) (v6 : Int32) (Z : jZ) (I : jI) (L : jL), SH Z → jext Z0 Z → jk Z v0 12 → K165 v0 v1 v2 v3 v4 v5 v6 Z I L → jJ G 11 165 [(0, .ref v0), (1, .int v1), (2, .int v2), (3, .int v3), (4, .int v4), (5, .int v5), (6, .int v6)] [] Z I L 0 0) (v0 : Nat) (v1 : Int32) (v2 : Int32) (v3 : Int32) (v4 : Int32) (v5 : Int32) (v6 : Int32) (Z : jZ) (I : jI) (L : jL) (hZ : SH Z) (hx : jext Z0 Z) (kv0 : jk Z v0 12) (h : f_X12_countWays_b320 K90 K165 Q v0 v1 v2 v3 v4 v5 v6 Z I L) : jJ G 11 320 [(0, .ref v0), (1, .int v1), (2, .int v2), (3, .int v3), (4, .int v4), (5, .int v5), (6, .int v6)] [] Z I L 0 0 := by
  obtain ⟨x14, ex14⟩ : ∃ y : Int32, y = v6 + 1 := ⟨_, rfl⟩
  have h := h x14 ex14
  refine j_iinc E x14 [(6, .int x14), (0, .ref v0), (1, .int v1), (2, .int v2), (3, .int v3), (4, .int v4), (5, .int v5)] dX12_countWays_320 6 rfl (by rw [ex14]; rfl) (by decide) rfl ?_
  refine j_goto E 165 dX12_countWays_323 (by decide) ?_
  refine j_sub [1, 2, 3, 4, 5, 6, 0] rfl ?_
  exact hK165 v0 v1 v2 v3 v4 v5 x14 Z I L hZ hx kv0 h
set_option maxRecDepth 100000 in
def f_X12_countWays_L241 (K90 : Nat → Int32 → Int32 → Int32 → Int32 → jZ → jI → jL → Prop) (K165 : Nat → Int32 → Int32 → Int32 → Int32 → Int32 → Int32 → jZ → jI → jL → Prop) (K221 : Nat → Int32 → Int32 → Int32 → Int32 → Int32 → Int32 → Int32 → Int32 → Int32 → jZ → jI → jL → Prop) (Q : Int32 → jZ → jI → jL → Prop) : Nat → Nat → Int32 → Int32 → Int32 → Int32 → Int32 → Int32 → Int32 → Int32 → Int32 → Int32 → jZ → jI → jL → Prop
  | 0 => fun _ _ _ _ _ _ _ _ _ _ _ _ _ _ => False
  | n + 1 => fun v0 v1 v2 v3 v4 v5 v6 v7 v8 v9 v10 Z I L => ((v2 < v10 → (∀ x16 : Int32, x16 = v9 + 1 → K221 v0 v1 v2 v3 v4 v5 v6 v7 v8 x16 Z I L)) ∧ (¬ (v2 < v10) → (∀ b17 : Nat, jr Z v0 45 = some b17 → (vp_in (((((v5 - v5 / (4 : Int32) * (4 : Int32)) * v3) + v9) * (1000 : Int32)) + v10) 484000 ∧ (∀ b19 : Nat, jr Z v0 45 = some b19 → (∀ b20 : Nat, jr Z v0 38 = some b20 → (vp_in v8 75 ∧ (∀ b22 : Nat, jr Z v0 37 = some b22 → (vp_in v8 75 ∧ (vp_in (((((((v7 - v7 / (4 : Int32) * (4 : Int32)) * v3) + v9) - (I b20 v8.toNatClampNeg)) * (1000 : Int32)) + v10) - (I b22 v8.toNatClampNeg)) 484000 ∧ (vp_in (((((v5 - v5 / (4 : Int32) * (4 : Int32)) * v3) + v9) * (1000 : Int32)) + v10) 484000 ∧ (∀ I26 : jI, I26 = jpI I b17 (((((v5 - v5 / (4 : Int32) * (4 : Int32)) * v3) + v9) * (1000 : Int32)) + v10).toNatClampNeg ((I b17 (((((v5 - v5 / (4 : Int32) * (4 : Int32)) * v3) + v9) * (1000 : Int32)) + v10).toNatClampNeg) + (I b19 (((((((v7 - v7 / (4 : Int32) * (4 : Int32)) * v3) + v9) - (I b20 v8.toNatClampNeg)) * (1000 : Int32)) + v10) - (I b22 v8.toNatClampNeg)).toNatClampNeg)) → (∀ x27 : Int32, x27 = v10 + 1 → (f_X12_countWays_L241 K90 K165 K221 Q n) v0 v1 v2 v3 v4 v5 v6 v7 v8 v9 x27 Z I26 L)))))))))))))
set_option maxHeartbeats 4000000 in
set_option maxRecDepth 100000 in
theorem m_X12_countWays_L241 {G : jG} {Z0 : jZ} {Q : Int32 → jZ → jI → jL → Prop} (E : jE G cX12_countWays RX12 w_X12_countWays 11 (some .int) { frames := 4, cells := 0, slots := 0, locals := 99 } (xrtI Z0 Q)) (K90 : Nat → Int32 → Int32 → Int32 → Int32 → jZ → jI → jL → Prop) (hK90 : ∀ (v0 : Nat) (v1 : Int32) (v2 : Int32) (v3 : Int32) (v4 : Int32) (Z : jZ) (I : jI) (L : jL), SH Z → jext Z0 Z → jk Z v0 12 → K90 v0 v1 v2 v3 v4 Z I L → jJ G 11 90 [(0, .ref v0), (1, .int v1), (2, .int v2), (3, .int v3), (4, .int v4)] [] Z I L 0 0) (K165 : Nat → Int32 → Int32 → Int32 → Int32 → Int32 → Int32 → jZ → jI → jL → Prop) (hK165 : ∀ (v0 : Nat) (v1 : Int32) (v2 : Int32) (v3 : Int32) (v4 : Int32) (v5 : Int32) (v6 : Int32) (Z : jZ) (I : jI) (L : jL), SH Z → jext Z0 Z → jk Z v0 12 → K165 v0 v1 v2 v3 v4 v5 v6 Z I L → jJ G 11 165 [(0, .ref v0), (1, .int v1), (2, .int v2), (3, .int v3), (4, .int v4), (5, .int v5), (6, .int v6)] [] Z I L 0 0) (K221 : Nat → Int32 → Int32 → Int32 → Int32 → Int32 → Int32 → Int32 → Int32 → Int32 → jZ → jI → jL → Prop) (hK221 : ∀ (v0 : Nat) (v1 : Int32) (v2 : Int32) (v3 : Int32) (v4 : Int32) (v5 : Int32) (v6 : Int32) (v7 : Int32) (v8 : Int32) (v9 : Int32) (Z : jZ) (I : jI) (L : jL), SH Z → jext Z0 Z → jk Z v0 12 → K221 v0 v1 v2 v3 v4 v5 v6 v7 v8 v9 Z I L → jJ G 11 221 [(0, .ref v0), (1, .int v1), (2, .int v2), (3, .int v3), (4, .int v4), (5, .int v5), (6, .int v6), (7, .int v7), (8, .int v8), (9, .int v9)] [] Z I L 0 0) : ∀ (n : Nat) (v0 : Nat) (v1 : Int32) (v2 : Int32) (v3 : Int32) (v4 : Int32) (v5 : Int32) (v6 : Int32) (v7 : Int32) (v8 : Int32) (v9 : Int32) (v10 : Int32) (Z : jZ) (I : jI) (L : jL), SH Z → jext Z0 Z → jk Z v0 12 → f_X12_countWays_L241 K90 K165 K221 Q n v0 v1 v2 v3 v4 v5 v6 v7 v8 v9 v10 Z I L → jJ G 11 241 [(0, .ref v0), (1, .int v1), (2, .int v2), (3, .int v3), (4, .int v4), (5, .int v5), (6, .int v6), (7, .int v7), (8, .int v8), (9, .int v9), (10, .int v10)] [] Z I L 0 0 := by
  intro n
  induction n with
  | zero => intro v0 v1 v2 v3 v4 v5 v6 v7 v8 v9 v10 Z I L _ _ _ h; exact h.elim
  | succ n ih =>
    intro v0 v1 v2 v3 v4 v5 v6 v7 v8 v9 v10 Z I L hZ hx kv0 h
    have h : ((v2 < v10 → (∀ x16 : Int32, x16 = v9 + 1 → K221 v0 v1 v2 v3 v4 v5 v6 v7 v8 x16 Z I L)) ∧ (¬ (v2 < v10) → (∀ b17 : Nat, jr Z v0 45 = some b17 → (vp_in (((((v5 - v5 / (4 : Int32) * (4 : Int32)) * v3) + v9) * (1000 : Int32)) + v10) 484000 ∧ (∀ b19 : Nat, jr Z v0 45 = some b19 → (∀ b20 : Nat, jr Z v0 38 = some b20 → (vp_in v8 75 ∧ (∀ b22 : Nat, jr Z v0 37 = some b22 → (vp_in v8 75 ∧ (vp_in (((((((v7 - v7 / (4 : Int32) * (4 : Int32)) * v3) + v9) - (I b20 v8.toNatClampNeg)) * (1000 : Int32)) + v10) - (I b22 v8.toNatClampNeg)) 484000 ∧ (vp_in (((((v5 - v5 / (4 : Int32) * (4 : Int32)) * v3) + v9) * (1000 : Int32)) + v10) 484000 ∧ (∀ I26 : jI, I26 = jpI I b17 (((((v5 - v5 / (4 : Int32) * (4 : Int32)) * v3) + v9) * (1000 : Int32)) + v10).toNatClampNeg ((I b17 (((((v5 - v5 / (4 : Int32) * (4 : Int32)) * v3) + v9) * (1000 : Int32)) + v10).toNatClampNeg) + (I b19 (((((((v7 - v7 / (4 : Int32) * (4 : Int32)) * v3) + v9) - (I b20 v8.toNatClampNeg)) * (1000 : Int32)) + v10) - (I b22 v8.toNatClampNeg)).toNatClampNeg)) → (∀ x27 : Int32, x27 = v10 + 1 → (f_X12_countWays_L241 K90 K165 K221 Q n) v0 v1 v2 v3 v4 v5 v6 v7 v8 v9 x27 Z I26 L))))))))))))) := h
    obtain ⟨K241, eK241⟩ : ∃ K : Nat → Int32 → Int32 → Int32 → Int32 → Int32 → Int32 → Int32 → Int32 → Int32 → Int32 → jZ → jI → jL → Prop, K = f_X12_countWays_L241 K90 K165 K221 Q n := ⟨_, rfl⟩
    have hK241 := ih
    clear eK241 K241
    generalize f_X12_countWays_L241 K90 K165 K221 Q n = K241 at hK241 h
    refine j_iload E dX12_countWays_241 10 rfl ?_
    refine j_iload_n E dX12_countWays_243 2 rfl ?_
    refine j_icmp_gt E 314 dX12_countWays_244 (by decide) (fun c15 => ?_) (fun c15 => ?_)
    · have h := h.1 c15
      obtain ⟨x16, ex16⟩ : ∃ y : Int32, y = v9 + 1 := ⟨_, rfl⟩
      have h := h x16 ex16
      refine j_iinc E x16 [(9, .int x16), (0, .ref v0), (1, .int v1), (2, .int v2), (3, .int v3), (4, .int v4), (5, .int v5), (6, .int v6), (7, .int v7), (8, .int v8), (10, .int v10)] dX12_countWays_314 9 rfl (by rw [ex16]; rfl) (by decide) rfl ?_
      refine j_goto E 221 dX12_countWays_317 (by decide) ?_
      refine j_sub [1, 2, 3, 4, 5, 6, 7, 8, 9, 0] rfl ?_
      exact hK221 v0 v1 v2 v3 v4 v5 v6 v7 v8 x16 Z I L hZ hx kv0 h
    · have h := h.2 c15
      refine j_aload_n E dX12_countWays_247 0 rfl ?_
      obtain ⟨b17, eb17, kb17, lb17⟩ := sh_f hZ kv0 (j := 45) (k := 14) (m := 484000) rfl
      have h := h b17 eb17
      refine j_getr E 12 45 rfl rfl (by decide) (by decide) (iw iT_12) rfl rfl (tw W_831) kv0 eb17 dX12_countWays_248 ?_
      refine j_iload E dX12_countWays_251 5 rfl ?_
      refine j_iconst E (v := 4) dX12_countWays_253 (by decide) ?_
      refine j_irem E dX12_countWays_254 (by decide) ?_
      refine j_iload_n E dX12_countWays_255 3 rfl ?_
      refine j_imul E dX12_countWays_256 ?_
      refine j_iload E dX12_countWays_257 9 rfl ?_
      refine j_iadd E dX12_countWays_259 ?_
      refine j_sipush E (v := 1000) dX12_countWays_260 (by decide) ?_
      refine j_imul E dX12_countWays_263 ?_
      refine j_iload E dX12_countWays_264 10 rfl ?_
      refine j_iadd E dX12_countWays_266 ?_
      refine j_dup2_11 E dX12_countWays_267 rfl rfl ?_
      obtain ⟨o18, h⟩ := h
      refine j_iald E kb17 (by rw [lb17]; exact o18) dX12_countWays_268 ?_
      refine j_aload_n E dX12_countWays_269 0 rfl ?_
      obtain ⟨b19, eb19, kb19, lb19⟩ := sh_f hZ kv0 (j := 45) (k := 14) (m := 484000) rfl
      have h := h b19 eb19
      refine j_getr E 12 45 rfl rfl (by decide) (by decide) (iw iT_12) rfl rfl (tw W_831) kv0 eb19 dX12_countWays_270 ?_
      refine j_iload E dX12_countWays_273 7 rfl ?_
      refine j_iconst E (v := 4) dX12_countWays_275 (by decide) ?_
      refine j_irem E dX12_countWays_276 (by decide) ?_
      refine j_iload_n E dX12_countWays_277 3 rfl ?_
      refine j_imul E dX12_countWays_278 ?_
      refine j_iload E dX12_countWays_279 9 rfl ?_
      refine j_iadd E dX12_countWays_281 ?_
      refine j_aload_n E dX12_countWays_282 0 rfl ?_
      obtain ⟨b20, eb20, kb20, lb20⟩ := sh_f hZ kv0 (j := 38) (k := 14) (m := 75) rfl
      have h := h b20 eb20
      refine j_getr E 12 38 rfl rfl (by decide) (by decide) (iw iT_12) rfl rfl (tw W_809) kv0 eb20 dX12_countWays_283 ?_
      refine j_iload E dX12_countWays_286 8 rfl ?_
      obtain ⟨o21, h⟩ := h
      refine j_iald E kb20 (by rw [lb20]; exact o21) dX12_countWays_288 ?_
      refine j_isub E dX12_countWays_289 ?_
      refine j_sipush E (v := 1000) dX12_countWays_290 (by decide) ?_
      refine j_imul E dX12_countWays_293 ?_
      refine j_iload E dX12_countWays_294 10 rfl ?_
      refine j_iadd E dX12_countWays_296 ?_
      refine j_aload_n E dX12_countWays_297 0 rfl ?_
      obtain ⟨b22, eb22, kb22, lb22⟩ := sh_f hZ kv0 (j := 37) (k := 14) (m := 75) rfl
      have h := h b22 eb22
      refine j_getr E 12 37 rfl rfl (by decide) (by decide) (iw iT_12) rfl rfl (tw W_806) kv0 eb22 dX12_countWays_298 ?_
      refine j_iload E dX12_countWays_301 8 rfl ?_
      obtain ⟨o23, h⟩ := h
      refine j_iald E kb22 (by rw [lb22]; exact o23) dX12_countWays_303 ?_
      refine j_isub E dX12_countWays_304 ?_
      obtain ⟨o24, h⟩ := h
      refine j_iald E kb19 (by rw [lb19]; exact o24) dX12_countWays_305 ?_
      refine j_iadd E dX12_countWays_306 ?_
      obtain ⟨o25, h⟩ := h
      refine j_iast E kb17 (by rw [lb17]; exact o25) dX12_countWays_307 ?_
      refine j_nmI (fun I26 eI26 => ?_)
      have h := h I26 eI26
      obtain ⟨x27, ex27⟩ : ∃ y : Int32, y = v10 + 1 := ⟨_, rfl⟩
      have h := h x27 ex27
      refine j_iinc E x27 [(10, .int x27), (0, .ref v0), (1, .int v1), (2, .int v2), (3, .int v3), (4, .int v4), (5, .int v5), (6, .int v6), (7, .int v7), (8, .int v8), (9, .int v9)] dX12_countWays_308 10 rfl (by rw [ex27]; rfl) (by decide) rfl ?_
      refine j_goto E 241 dX12_countWays_311 (by decide) ?_
      refine j_sub [1, 2, 3, 4, 5, 6, 7, 8, 9, 10, 0] rfl ?_
      exact hK241 v0 v1 v2 v3 v4 v5 v6 v7 v8 v9 x27 Z I26 L hZ hx kv0 h
set_option maxRecDepth 100000 in
def f_X12_countWays_L221 (K90 : Nat → Int32 → Int32 → Int32 → Int32 → jZ → jI → jL → Prop) (K165 : Nat → Int32 → Int32 → Int32 → Int32 → Int32 → Int32 → jZ → jI → jL → Prop) (Q : Int32 → jZ → jI → jL → Prop) : Nat → Nat → Int32 → Int32 → Int32 → Int32 → Int32 → Int32 → Int32 → Int32 → Int32 → jZ → jI → jL → Prop
  | 0 => fun _ _ _ _ _ _ _ _ _ _ _ _ _ => False
  | n + 1 => fun v0 v1 v2 v3 v4 v5 v6 v7 v8 v9 Z I L => (∀ b28 : Nat, jr Z v0 9 = some b28 → (vp_in v1 6 ∧ (((I b28 v1.toNatClampNeg) < v9 → f_X12_countWays_b320 K90 K165 Q v0 v1 v2 v3 v4 v5 v6 Z I L) ∧ (¬ ((I b28 v1.toNatClampNeg) < v9) → (∀ b31 : Nat, jr Z v0 37 = some b31 → (vp_in v8 75 ∧ (∀ x33 : Int32, x33 = (I b31 v8.toNatClampNeg) → (∃ m241 : Nat, f_X12_countWays_L241 K90 K165 (f_X12_countWays_L221 K90 K165 Q n) Q m241 v0 v1 v2 v3 v4 v5 v6 v7 v8 v9 x33 Z I L))))))))
set_option maxHeartbeats 4000000 in
set_option maxRecDepth 100000 in
theorem m_X12_countWays_L221 {G : jG} {Z0 : jZ} {Q : Int32 → jZ → jI → jL → Prop} (E : jE G cX12_countWays RX12 w_X12_countWays 11 (some .int) { frames := 4, cells := 0, slots := 0, locals := 99 } (xrtI Z0 Q)) (K90 : Nat → Int32 → Int32 → Int32 → Int32 → jZ → jI → jL → Prop) (hK90 : ∀ (v0 : Nat) (v1 : Int32) (v2 : Int32) (v3 : Int32) (v4 : Int32) (Z : jZ) (I : jI) (L : jL), SH Z → jext Z0 Z → jk Z v0 12 → K90 v0 v1 v2 v3 v4 Z I L → jJ G 11 90 [(0, .ref v0), (1, .int v1), (2, .int v2), (3, .int v3), (4, .int v4)] [] Z I L 0 0) (K165 : Nat → Int32 → Int32 → Int32 → Int32 → Int32 → Int32 → jZ → jI → jL → Prop) (hK165 : ∀ (v0 : Nat) (v1 : Int32) (v2 : Int32) (v3 : Int32) (v4 : Int32) (v5 : Int32) (v6 : Int32) (Z : jZ) (I : jI) (L : jL), SH Z → jext Z0 Z → jk Z v0 12 → K165 v0 v1 v2 v3 v4 v5 v6 Z I L → jJ G 11 165 [(0, .ref v0), (1, .int v1), (2, .int v2), (3, .int v3), (4, .int v4), (5, .int v5), (6, .int v6)] [] Z I L 0 0) : ∀ (n : Nat) (v0 : Nat) (v1 : Int32) (v2 : Int32) (v3 : Int32) (v4 : Int32) (v5 : Int32) (v6 : Int32) (v7 : Int32) (v8 : Int32) (v9 : Int32) (Z : jZ) (I : jI) (L : jL), SH Z → jext Z0 Z → jk Z v0 12 → f_X12_countWays_L221 K90 K165 Q n v0 v1 v2 v3 v4 v5 v6 v7 v8 v9 Z I L → jJ G 11 221 [(0, .ref v0), (1, .int v1), (2, .int v2), (3, .int v3), (4, .int v4), (5, .int v5), (6, .int v6), (7, .int v7), (8, .int v8), (9, .int v9)] [] Z I L 0 0 := by
  intro n
  induction n with
  | zero => intro v0 v1 v2 v3 v4 v5 v6 v7 v8 v9 Z I L _ _ _ h; exact h.elim
  | succ n ih =>
    intro v0 v1 v2 v3 v4 v5 v6 v7 v8 v9 Z I L hZ hx kv0 h
    have h : (∀ b28 : Nat, jr Z v0 9 = some b28 → (vp_in v1 6 ∧ (((I b28 v1.toNatClampNeg) < v9 → f_X12_countWays_b320 K90 K165 Q v0 v1 v2 v3 v4 v5 v6 Z I L) ∧ (¬ ((I b28 v1.toNatClampNeg) < v9) → (∀ b31 : Nat, jr Z v0 37 = some b31 → (vp_in v8 75 ∧ (∀ x33 : Int32, x33 = (I b31 v8.toNatClampNeg) → (∃ m241 : Nat, f_X12_countWays_L241 K90 K165 (f_X12_countWays_L221 K90 K165 Q n) Q m241 v0 v1 v2 v3 v4 v5 v6 v7 v8 v9 x33 Z I L)))))))) := h
    obtain ⟨K221, eK221⟩ : ∃ K : Nat → Int32 → Int32 → Int32 → Int32 → Int32 → Int32 → Int32 → Int32 → Int32 → jZ → jI → jL → Prop, K = f_X12_countWays_L221 K90 K165 Q n := ⟨_, rfl⟩
    have hK221 := ih
    clear eK221 K221
    generalize f_X12_countWays_L221 K90 K165 Q n = K221 at hK221 h
    refine j_iload E dX12_countWays_221 9 rfl ?_
    refine j_aload_n E dX12_countWays_223 0 rfl ?_
    obtain ⟨b28, eb28, kb28, lb28⟩ := sh_f hZ kv0 (j := 9) (k := 14) (m := 6) rfl
    have h := h b28 eb28
    refine j_getr E 12 9 rfl rfl (by decide) (by decide) (iw iT_12) rfl rfl (tw W_718) kv0 eb28 dX12_countWays_224 ?_
    refine j_iload_n E dX12_countWays_227 1 rfl ?_
    obtain ⟨o29, h⟩ := h
    refine j_iald E kb28 (by rw [lb28]; exact o29) dX12_countWays_228 ?_
    refine j_icmp_gt E 320 dX12_countWays_229 (by decide) (fun c30 => ?_) (fun c30 => ?_)
    · have h := h.1 c30
      refine j_sub [0, 1, 2, 3, 4, 5, 6] rfl ?_
      exact m_X12_countWays_b320 E K90 hK90 K165 hK165 v0 v1 v2 v3 v4 v5 v6 Z I L hZ hx kv0 h
    · have h := h.2 c30
      refine j_aload_n E dX12_countWays_232 0 rfl ?_
      obtain ⟨b31, eb31, kb31, lb31⟩ := sh_f hZ kv0 (j := 37) (k := 14) (m := 75) rfl
      have h := h b31 eb31
      refine j_getr E 12 37 rfl rfl (by decide) (by decide) (iw iT_12) rfl rfl (tw W_806) kv0 eb31 dX12_countWays_233 ?_
      refine j_iload E dX12_countWays_236 8 rfl ?_
      obtain ⟨o32, h⟩ := h
      refine j_iald E kb31 (by rw [lb31]; exact o32) dX12_countWays_238 ?_
      refine j_topi (fun x33 ex33 => ?_)
      have h := h x33 ex33
      refine j_istore E 10 [(10, .int x33), (0, .ref v0), (1, .int v1), (2, .int v2), (3, .int v3), (4, .int v4), (5, .int v5), (6, .int v6), (7, .int v7), (8, .int v8), (9, .int v9)] dX12_countWays_239 (by decide) rfl ?_
      obtain ⟨n34, h⟩ := h
      refine j_sub [1, 2, 3, 4, 5, 6, 7, 8, 9, 10, 0] rfl ?_
      exact m_X12_countWays_L241 E K90 hK90 K165 hK165 K221 hK221 n34 v0 v1 v2 v3 v4 v5 v6 v7 v8 v9 x33 Z I L hZ hx kv0 h
set_option maxRecDepth 100000 in
def f_X12_countWays_L165 (K90 : Nat → Int32 → Int32 → Int32 → Int32 → jZ → jI → jL → Prop) (Q : Int32 → jZ → jI → jL → Prop) : Nat → Nat → Int32 → Int32 → Int32 → Int32 → Int32 → Int32 → jZ → jI → jL → Prop
  | 0 => fun _ _ _ _ _ _ _ _ _ _ => False
  | n + 1 => fun v0 v1 v2 v3 v4 v5 v6 Z I L => (((3 : Int32) < v6 → f_X12_countWays_b326 K90 Q v0 v1 v2 v3 v4 Z I L) ∧ (¬ ((3 : Int32) < v6) → ((v5 < v6 → f_X12_countWays_b326 K90 Q v0 v1 v2 v3 v4 Z I L) ∧ (¬ (v5 < v6) → (∀ x37 : Int32, x37 = (v5 - v6) → (∀ x38 : Int32, x38 = ((((3 : Int32) * x37) + v6) - (1 : Int32)) → (∀ b39 : Nat, jr Z v0 37 = some b39 → (vp_in x38 75 ∧ ((¬ (I b39 x38.toNatClampNeg) = (1000000000 : Int32) → (∀ b42 : Nat, jr Z v0 38 = some b42 → (vp_in x38 75 ∧ (∀ x44 : Int32, x44 = (I b42 x38.toNatClampNeg) → (∃ m221 : Nat, f_X12_countWays_L221 K90 (f_X12_countWays_L165 K90 Q n) Q m221 v0 v1 v2 v3 v4 v5 v6 x37 x38 x44 Z I L))))) ∧ ((I b39 x38.toNatClampNeg) = (1000000000 : Int32) → f_X12_countWays_b320 K90 (f_X12_countWays_L165 K90 Q n) Q v0 v1 v2 v3 v4 v5 v6 Z I L))))))))))
set_option maxHeartbeats 4000000 in
set_option maxRecDepth 100000 in
theorem m_X12_countWays_L165 {G : jG} {Z0 : jZ} {Q : Int32 → jZ → jI → jL → Prop} (E : jE G cX12_countWays RX12 w_X12_countWays 11 (some .int) { frames := 4, cells := 0, slots := 0, locals := 99 } (xrtI Z0 Q)) (K90 : Nat → Int32 → Int32 → Int32 → Int32 → jZ → jI → jL → Prop) (hK90 : ∀ (v0 : Nat) (v1 : Int32) (v2 : Int32) (v3 : Int32) (v4 : Int32) (Z : jZ) (I : jI) (L : jL), SH Z → jext Z0 Z → jk Z v0 12 → K90 v0 v1 v2 v3 v4 Z I L → jJ G 11 90 [(0, .ref v0), (1, .int v1), (2, .int v2), (3, .int v3), (4, .int v4)] [] Z I L 0 0) : ∀ (n : Nat) (v0 : Nat) (v1 : Int32) (v2 : Int32) (v3 : Int32) (v4 : Int32) (v5 : Int32) (v6 : Int32) (Z : jZ) (I : jI) (L : jL), SH Z → jext Z0 Z → jk Z v0 12 → f_X12_countWays_L165 K90 Q n v0 v1 v2 v3 v4 v5 v6 Z I L → jJ G 11 165 [(0, .ref v0), (1, .int v1), (2, .int v2), (3, .int v3), (4, .int v4), (5, .int v5), (6, .int v6)] [] Z I L 0 0 := by
  intro n
  induction n with
  | zero => intro v0 v1 v2 v3 v4 v5 v6 Z I L _ _ _ h; exact h.elim
  | succ n ih =>
    intro v0 v1 v2 v3 v4 v5 v6 Z I L hZ hx kv0 h
    have h : (((3 : Int32) < v6 → f_X12_countWays_b326 K90 Q v0 v1 v2 v3 v4 Z I L) ∧ (¬ ((3 : Int32) < v6) → ((v5 < v6 → f_X12_countWays_b326 K90 Q v0 v1 v2 v3 v4 Z I L) ∧ (¬ (v5 < v6) → (∀ x37 : Int32, x37 = (v5 - v6) → (∀ x38 : Int32, x38 = ((((3 : Int32) * x37) + v6) - (1 : Int32)) → (∀ b39 : Nat, jr Z v0 37 = some b39 → (vp_in x38 75 ∧ ((¬ (I b39 x38.toNatClampNeg) = (1000000000 : Int32) → (∀ b42 : Nat, jr Z v0 38 = some b42 → (vp_in x38 75 ∧ (∀ x44 : Int32, x44 = (I b42 x38.toNatClampNeg) → (∃ m221 : Nat, f_X12_countWays_L221 K90 (f_X12_countWays_L165 K90 Q n) Q m221 v0 v1 v2 v3 v4 v5 v6 x37 x38 x44 Z I L))))) ∧ ((I b39 x38.toNatClampNeg) = (1000000000 : Int32) → f_X12_countWays_b320 K90 (f_X12_countWays_L165 K90 Q n) Q v0 v1 v2 v3 v4 v5 v6 Z I L)))))))))) := h
    obtain ⟨K165, eK165⟩ : ∃ K : Nat → Int32 → Int32 → Int32 → Int32 → Int32 → Int32 → jZ → jI → jL → Prop, K = f_X12_countWays_L165 K90 Q n := ⟨_, rfl⟩
    have hK165 := ih
    clear eK165 K165
    generalize f_X12_countWays_L165 K90 Q n = K165 at hK165 h
    refine j_iload E dX12_countWays_165 6 rfl ?_
    refine j_iconst E (v := 3) dX12_countWays_167 (by decide) ?_
    refine j_icmp_gt E 326 dX12_countWays_168 (by decide) (fun c35 => ?_) (fun c35 => ?_)
    · have h := h.1 c35
      refine j_sub [0, 1, 2, 3, 4] rfl ?_
      exact m_X12_countWays_b326 E K90 hK90 v0 v1 v2 v3 v4 Z I L hZ hx kv0 h
    · have h := h.2 c35
      refine j_iload E dX12_countWays_171 6 rfl ?_
      refine j_iload E dX12_countWays_173 5 rfl ?_
      refine j_icmp_gt E 326 dX12_countWays_175 (by decide) (fun c36 => ?_) (fun c36 => ?_)
      · have h := h.1 c36
        refine j_sub [0, 1, 2, 3, 4] rfl ?_
        exact m_X12_countWays_b326 E K90 hK90 v0 v1 v2 v3 v4 Z I L hZ hx kv0 h
      · have h := h.2 c36
        refine j_iload E dX12_countWays_178 5 rfl ?_
        refine j_iload E dX12_countWays_180 6 rfl ?_
        refine j_isub E dX12_countWays_182 ?_
        refine j_topi (fun x37 ex37 => ?_)
        have h := h x37 ex37
        refine j_istore E 7 [(7, .int x37), (0, .ref v0), (1, .int v1), (2, .int v2), (3, .int v3), (4, .int v4), (5, .int v5), (6, .int v6)] dX12_countWays_183 (by decide) rfl ?_
        refine j_iconst E (v := 3) dX12_countWays_185 (by decide) ?_
        refine j_iload E dX12_countWays_186 0 rfl ?_
        refine j_imul E dX12_countWays_188 ?_
        refine j_iload E dX12_countWays_189 7 rfl ?_
        refine j_iadd E dX12_countWays_191 ?_
        refine j_iconst E (v := 1) dX12_countWays_192 (by decide) ?_
        refine j_isub E dX12_countWays_193 ?_
        refine j_topi (fun x38 ex38 => ?_)
        have h := h x38 ex38
        refine j_istore E 8 [(8, .int x38), (7, .int x37), (0, .ref v0), (1, .int v1), (2, .int v2), (3, .int v3), (4, .int v4), (5, .int v5), (6, .int v6)] dX12_countWays_194 (by decide) rfl ?_
        refine j_aload_n E dX12_countWays_196 2 rfl ?_
        obtain ⟨b39, eb39, kb39, lb39⟩ := sh_f hZ kv0 (j := 37) (k := 14) (m := 75) rfl
        have h := h b39 eb39
        refine j_getr E 12 37 rfl rfl (by decide) (by decide) (iw iT_12) rfl rfl (tw W_806) kv0 eb39 dX12_countWays_197 ?_
        refine j_iload E dX12_countWays_200 0 rfl ?_
        obtain ⟨o40, h⟩ := h
        refine j_iald E kb39 (by rw [lb39]; exact o40) dX12_countWays_202 ?_
        refine j_ldcw E (tw W_807) dX12_countWays_203 ?_
        refine j_icmp_ne E 212 dX12_countWays_206 (by decide) (fun c41 => ?_) (fun c41 => ?_)
        · have h := h.1 c41
          refine j_aload_n E dX12_countWays_212 2 rfl ?_
          obtain ⟨b42, eb42, kb42, lb42⟩ := sh_f hZ kv0 (j := 38) (k := 14) (m := 75) rfl
          have h := h b42 eb42
          refine j_getr E 12 38 rfl rfl (by decide) (by decide) (iw iT_12) rfl rfl (tw W_809) kv0 eb42 dX12_countWays_213 ?_
          refine j_iload E dX12_countWays_216 0 rfl ?_
          obtain ⟨o43, h⟩ := h
          refine j_iald E kb42 (by rw [lb42]; exact o43) dX12_countWays_218 ?_
          refine j_topi (fun x44 ex44 => ?_)
          have h := h x44 ex44
          refine j_istore E 9 [(9, .int x44), (8, .int x38), (7, .int x37), (0, .ref v0), (1, .int v1), (2, .int v2), (3, .int v3), (4, .int v4), (5, .int v5), (6, .int v6)] dX12_countWays_219 (by decide) rfl ?_
          obtain ⟨n45, h⟩ := h
          refine j_sub [3, 4, 5, 6, 7, 8, 9, 2, 1, 0] rfl ?_
          exact m_X12_countWays_L221 E K90 hK90 K165 hK165 n45 v0 v1 v2 v3 v4 v5 v6 x37 x38 x44 Z I L hZ hx kv0 h
        · have h := h.2 c41
          refine j_goto E 320 dX12_countWays_209 (by decide) ?_
          refine j_sub [2, 3, 4, 5, 6, 7, 8] rfl ?_
          exact m_X12_countWays_b320 E K90 hK90 K165 hK165 v0 v1 v2 v3 v4 v5 v6 Z I L hZ hx kv0 h
set_option maxRecDepth 100000 in
def f_X12_countWays_L122 (K90 : Nat → Int32 → Int32 → Int32 → Int32 → jZ → jI → jL → Prop) (K108 : Nat → Int32 → Int32 → Int32 → Int32 → Int32 → Int32 → jZ → jI → jL → Prop) (Q : Int32 → jZ → jI → jL → Prop) : Nat → Nat → Int32 → Int32 → Int32 → Int32 → Int32 → Int32 → Int32 → jZ → jI → jL → Prop
  | 0 => fun _ _ _ _ _ _ _ _ _ _ _ => False
  | n + 1 => fun v0 v1 v2 v3 v4 v5 v6 v7 Z I L => ((v2 < v7 → (∀ x47 : Int32, x47 = v6 + 1 → K108 v0 v1 v2 v3 v4 v5 x47 Z I L)) ∧ (¬ (v2 < v7) → (∀ b48 : Nat, jr Z v0 45 = some b48 → (vp_in (((((v5 - v5 / (4 : Int32) * (4 : Int32)) * v3) + v6) * (1000 : Int32)) + v7) 484000 ∧ (∀ I50 : jI, I50 = jpI I b48 (((((v5 - v5 / (4 : Int32) * (4 : Int32)) * v3) + v6) * (1000 : Int32)) + v7).toNatClampNeg (0 : Int32) → (∀ x51 : Int32, x51 = v7 + 1 → (f_X12_countWays_L122 K90 K108 Q n) v0 v1 v2 v3 v4 v5 v6 x51 Z I50 L))))))
set_option maxHeartbeats 4000000 in
set_option maxRecDepth 100000 in
theorem m_X12_countWays_L122 {G : jG} {Z0 : jZ} {Q : Int32 → jZ → jI → jL → Prop} (E : jE G cX12_countWays RX12 w_X12_countWays 11 (some .int) { frames := 4, cells := 0, slots := 0, locals := 99 } (xrtI Z0 Q)) (K90 : Nat → Int32 → Int32 → Int32 → Int32 → jZ → jI → jL → Prop) (hK90 : ∀ (v0 : Nat) (v1 : Int32) (v2 : Int32) (v3 : Int32) (v4 : Int32) (Z : jZ) (I : jI) (L : jL), SH Z → jext Z0 Z → jk Z v0 12 → K90 v0 v1 v2 v3 v4 Z I L → jJ G 11 90 [(0, .ref v0), (1, .int v1), (2, .int v2), (3, .int v3), (4, .int v4)] [] Z I L 0 0) (K108 : Nat → Int32 → Int32 → Int32 → Int32 → Int32 → Int32 → jZ → jI → jL → Prop) (hK108 : ∀ (v0 : Nat) (v1 : Int32) (v2 : Int32) (v3 : Int32) (v4 : Int32) (v5 : Int32) (v6 : Int32) (Z : jZ) (I : jI) (L : jL), SH Z → jext Z0 Z → jk Z v0 12 → K108 v0 v1 v2 v3 v4 v5 v6 Z I L → jJ G 11 108 [(0, .ref v0), (1, .int v1), (2, .int v2), (3, .int v3), (4, .int v4), (5, .int v5), (6, .int v6)] [] Z I L 0 0) : ∀ (n : Nat) (v0 : Nat) (v1 : Int32) (v2 : Int32) (v3 : Int32) (v4 : Int32) (v5 : Int32) (v6 : Int32) (v7 : Int32) (Z : jZ) (I : jI) (L : jL), SH Z → jext Z0 Z → jk Z v0 12 → f_X12_countWays_L122 K90 K108 Q n v0 v1 v2 v3 v4 v5 v6 v7 Z I L → jJ G 11 122 [(0, .ref v0), (1, .int v1), (2, .int v2), (3, .int v3), (4, .int v4), (5, .int v5), (6, .int v6), (7, .int v7)] [] Z I L 0 0 := by
  intro n
  induction n with
  | zero => intro v0 v1 v2 v3 v4 v5 v6 v7 Z I L _ _ _ h; exact h.elim
  | succ n ih =>
    intro v0 v1 v2 v3 v4 v5 v6 v7 Z I L hZ hx kv0 h
    have h : ((v2 < v7 → (∀ x47 : Int32, x47 = v6 + 1 → K108 v0 v1 v2 v3 v4 v5 x47 Z I L)) ∧ (¬ (v2 < v7) → (∀ b48 : Nat, jr Z v0 45 = some b48 → (vp_in (((((v5 - v5 / (4 : Int32) * (4 : Int32)) * v3) + v6) * (1000 : Int32)) + v7) 484000 ∧ (∀ I50 : jI, I50 = jpI I b48 (((((v5 - v5 / (4 : Int32) * (4 : Int32)) * v3) + v6) * (1000 : Int32)) + v7).toNatClampNeg (0 : Int32) → (∀ x51 : Int32, x51 = v7 + 1 → (f_X12_countWays_L122 K90 K108 Q n) v0 v1 v2 v3 v4 v5 v6 x51 Z I50 L)))))) := h
    obtain ⟨K122, eK122⟩ : ∃ K : Nat → Int32 → Int32 → Int32 → Int32 → Int32 → Int32 → Int32 → jZ → jI → jL → Prop, K = f_X12_countWays_L122 K90 K108 Q n := ⟨_, rfl⟩
    have hK122 := ih
    clear eK122 K122
    generalize f_X12_countWays_L122 K90 K108 Q n = K122 at hK122 h
    refine j_iload E dX12_countWays_122 7 rfl ?_
    refine j_iload_n E dX12_countWays_124 2 rfl ?_
    refine j_icmp_gt E 156 dX12_countWays_125 (by decide) (fun c46 => ?_) (fun c46 => ?_)
    · have h := h.1 c46
      obtain ⟨x47, ex47⟩ : ∃ y : Int32, y = v6 + 1 := ⟨_, rfl⟩
      have h := h x47 ex47
      refine j_iinc E x47 [(6, .int x47), (0, .ref v0), (1, .int v1), (2, .int v2), (3, .int v3), (4, .int v4), (5, .int v5), (7, .int v7)] dX12_countWays_156 6 rfl (by rw [ex47]; rfl) (by decide) rfl ?_
      refine j_goto E 108 dX12_countWays_159 (by decide) ?_
      refine j_sub [1, 2, 3, 4, 5, 6, 0] rfl ?_
      exact hK108 v0 v1 v2 v3 v4 v5 x47 Z I L hZ hx kv0 h
    · have h := h.2 c46
      refine j_aload_n E dX12_countWays_128 0 rfl ?_
      obtain ⟨b48, eb48, kb48, lb48⟩ := sh_f hZ kv0 (j := 45) (k := 14) (m := 484000) rfl
      have h := h b48 eb48
      refine j_getr E 12 45 rfl rfl (by decide) (by decide) (iw iT_12) rfl rfl (tw W_831) kv0 eb48 dX12_countWays_129 ?_
      refine j_iload E dX12_countWays_132 5 rfl ?_
      refine j_iconst E (v := 4) dX12_countWays_134 (by decide) ?_
      refine j_irem E dX12_countWays_135 (by decide) ?_
      refine j_iload_n E dX12_countWays_136 3 rfl ?_
      refine j_imul E dX12_countWays_137 ?_
      refine j_iload E dX12_countWays_138 6 rfl ?_
      refine j_iadd E dX12_countWays_140 ?_
      refine j_sipush E (v := 1000) dX12_countWays_141 (by decide) ?_
      refine j_imul E dX12_countWays_144 ?_
      refine j_iload E dX12_countWays_145 7 rfl ?_
      refine j_iadd E dX12_countWays_147 ?_
      refine j_iconst E (v := 0) dX12_countWays_148 (by decide) ?_
      obtain ⟨o49, h⟩ := h
      refine j_iast E kb48 (by rw [lb48]; exact o49) dX12_countWays_149 ?_
      refine j_nmI (fun I50 eI50 => ?_)
      have h := h I50 eI50
      obtain ⟨x51, ex51⟩ : ∃ y : Int32, y = v7 + 1 := ⟨_, rfl⟩
      have h := h x51 ex51
      refine j_iinc E x51 [(7, .int x51), (0, .ref v0), (1, .int v1), (2, .int v2), (3, .int v3), (4, .int v4), (5, .int v5), (6, .int v6)] dX12_countWays_150 7 rfl (by rw [ex51]; rfl) (by decide) rfl ?_
      refine j_goto E 122 dX12_countWays_153 (by decide) ?_
      refine j_sub [1, 2, 3, 4, 5, 6, 7, 0] rfl ?_
      exact hK122 v0 v1 v2 v3 v4 v5 v6 x51 Z I50 L hZ hx kv0 h
set_option maxRecDepth 100000 in
def f_X12_countWays_L108 (K90 : Nat → Int32 → Int32 → Int32 → Int32 → jZ → jI → jL → Prop) (Q : Int32 → jZ → jI → jL → Prop) : Nat → Nat → Int32 → Int32 → Int32 → Int32 → Int32 → Int32 → jZ → jI → jL → Prop
  | 0 => fun _ _ _ _ _ _ _ _ _ _ => False
  | n + 1 => fun v0 v1 v2 v3 v4 v5 v6 Z I L => (∀ b52 : Nat, jr Z v0 9 = some b52 → (vp_in v1 6 ∧ (((I b52 v1.toNatClampNeg) < v6 → (∃ m165 : Nat, f_X12_countWays_L165 K90 Q m165 v0 v1 v2 v3 v4 v5 (1 : Int32) Z I L)) ∧ (¬ ((I b52 v1.toNatClampNeg) < v6) → (∃ m122 : Nat, f_X12_countWays_L122 K90 (f_X12_countWays_L108 K90 Q n) Q m122 v0 v1 v2 v3 v4 v5 v6 (0 : Int32) Z I L)))))
set_option maxHeartbeats 4000000 in
set_option maxRecDepth 100000 in
theorem m_X12_countWays_L108 {G : jG} {Z0 : jZ} {Q : Int32 → jZ → jI → jL → Prop} (E : jE G cX12_countWays RX12 w_X12_countWays 11 (some .int) { frames := 4, cells := 0, slots := 0, locals := 99 } (xrtI Z0 Q)) (K90 : Nat → Int32 → Int32 → Int32 → Int32 → jZ → jI → jL → Prop) (hK90 : ∀ (v0 : Nat) (v1 : Int32) (v2 : Int32) (v3 : Int32) (v4 : Int32) (Z : jZ) (I : jI) (L : jL), SH Z → jext Z0 Z → jk Z v0 12 → K90 v0 v1 v2 v3 v4 Z I L → jJ G 11 90 [(0, .ref v0), (1, .int v1), (2, .int v2), (3, .int v3), (4, .int v4)] [] Z I L 0 0) : ∀ (n : Nat) (v0 : Nat) (v1 : Int32) (v2 : Int32) (v3 : Int32) (v4 : Int32) (v5 : Int32) (v6 : Int32) (Z : jZ) (I : jI) (L : jL), SH Z → jext Z0 Z → jk Z v0 12 → f_X12_countWays_L108 K90 Q n v0 v1 v2 v3 v4 v5 v6 Z I L → jJ G 11 108 [(0, .ref v0), (1, .int v1), (2, .int v2), (3, .int v3), (4, .int v4), (5, .int v5), (6, .int v6)] [] Z I L 0 0 := by
  intro n
  induction n with
  | zero => intro v0 v1 v2 v3 v4 v5 v6 Z I L _ _ _ h; exact h.elim
  | succ n ih =>
    intro v0 v1 v2 v3 v4 v5 v6 Z I L hZ hx kv0 h
    have h : (∀ b52 : Nat, jr Z v0 9 = some b52 → (vp_in v1 6 ∧ (((I b52 v1.toNatClampNeg) < v6 → (∃ m165 : Nat, f_X12_countWays_L165 K90 Q m165 v0 v1 v2 v3 v4 v5 (1 : Int32) Z I L)) ∧ (¬ ((I b52 v1.toNatClampNeg) < v6) → (∃ m122 : Nat, f_X12_countWays_L122 K90 (f_X12_countWays_L108 K90 Q n) Q m122 v0 v1 v2 v3 v4 v5 v6 (0 : Int32) Z I L))))) := h
    obtain ⟨K108, eK108⟩ : ∃ K : Nat → Int32 → Int32 → Int32 → Int32 → Int32 → Int32 → jZ → jI → jL → Prop, K = f_X12_countWays_L108 K90 Q n := ⟨_, rfl⟩
    have hK108 := ih
    clear eK108 K108
    generalize f_X12_countWays_L108 K90 Q n = K108 at hK108 h
    refine j_iload E dX12_countWays_108 6 rfl ?_
    refine j_aload_n E dX12_countWays_110 0 rfl ?_
    obtain ⟨b52, eb52, kb52, lb52⟩ := sh_f hZ kv0 (j := 9) (k := 14) (m := 6) rfl
    have h := h b52 eb52
    refine j_getr E 12 9 rfl rfl (by decide) (by decide) (iw iT_12) rfl rfl (tw W_718) kv0 eb52 dX12_countWays_111 ?_
    refine j_iload_n E dX12_countWays_114 1 rfl ?_
    obtain ⟨o53, h⟩ := h
    refine j_iald E kb52 (by rw [lb52]; exact o53) dX12_countWays_115 ?_
    refine j_icmp_gt E 162 dX12_countWays_116 (by decide) (fun c54 => ?_) (fun c54 => ?_)
    · have h := h.1 c54
      refine j_iconst E (v := 1) dX12_countWays_162 (by decide) ?_
      refine j_istore E 6 [(6, .int (1 : Int32)), (0, .ref v0), (1, .int v1), (2, .int v2), (3, .int v3), (4, .int v4), (5, .int v5)] dX12_countWays_163 (by decide) rfl ?_
      obtain ⟨n55, h⟩ := h
      refine j_sub [1, 2, 3, 4, 5, 6, 0] rfl ?_
      exact m_X12_countWays_L165 E K90 hK90 n55 v0 v1 v2 v3 v4 v5 (1 : Int32) Z I L hZ hx kv0 h
    · have h := h.2 c54
      refine j_iconst E (v := 0) dX12_countWays_119 (by decide) ?_
      refine j_istore E 7 [(7, .int (0 : Int32)), (0, .ref v0), (1, .int v1), (2, .int v2), (3, .int v3), (4, .int v4), (5, .int v5), (6, .int v6)] dX12_countWays_120 (by decide) rfl ?_
      obtain ⟨n56, h⟩ := h
      refine j_sub [1, 2, 3, 4, 5, 6, 7, 0] rfl ?_
      exact m_X12_countWays_L122 E K90 hK90 K108 hK108 n56 v0 v1 v2 v3 v4 v5 v6 (0 : Int32) Z I L hZ hx kv0 h
set_option maxRecDepth 100000 in
def f_X12_countWays_L90  (Q : Int32 → jZ → jI → jL → Prop) : Nat → Nat → Int32 → Int32 → Int32 → Int32 → jZ → jI → jL → Prop
  | 0 => fun _ _ _ _ _ _ _ _ => False
  | n + 1 => fun v0 v1 v2 v3 v4 Z I L => (((I v0 0) ≤ v4 → (∃ m338 : Nat, f_X12_countWays_L338  Q m338 v0 v1 v2 v3 (0 : Int32) (0 : Int32) Z I L)) ∧ (¬ ((I v0 0) ≤ v4) → (∀ x59 : Int32, x59 = (v4 + (1 : Int32)) → (∃ m108 : Nat, f_X12_countWays_L108 (f_X12_countWays_L90 Q n) Q m108 v0 v1 v2 v3 v4 x59 (0 : Int32) Z I L))))
set_option maxHeartbeats 4000000 in
set_option maxRecDepth 100000 in
theorem m_X12_countWays_L90 {G : jG} {Z0 : jZ} {Q : Int32 → jZ → jI → jL → Prop} (E : jE G cX12_countWays RX12 w_X12_countWays 11 (some .int) { frames := 4, cells := 0, slots := 0, locals := 99 } (xrtI Z0 Q))  : ∀ (n : Nat) (v0 : Nat) (v1 : Int32) (v2 : Int32) (v3 : Int32) (v4 : Int32) (Z : jZ) (I : jI) (L : jL), SH Z → jext Z0 Z → jk Z v0 12 → f_X12_countWays_L90  Q n v0 v1 v2 v3 v4 Z I L → jJ G 11 90 [(0, .ref v0), (1, .int v1), (2, .int v2), (3, .int v3), (4, .int v4)] [] Z I L 0 0 := by
  intro n
  induction n with
  | zero => intro v0 v1 v2 v3 v4 Z I L _ _ _ h; exact h.elim
  | succ n ih =>
    intro v0 v1 v2 v3 v4 Z I L hZ hx kv0 h
    have h : (((I v0 0) ≤ v4 → (∃ m338 : Nat, f_X12_countWays_L338  Q m338 v0 v1 v2 v3 (0 : Int32) (0 : Int32) Z I L)) ∧ (¬ ((I v0 0) ≤ v4) → (∀ x59 : Int32, x59 = (v4 + (1 : Int32)) → (∃ m108 : Nat, f_X12_countWays_L108 (f_X12_countWays_L90 Q n) Q m108 v0 v1 v2 v3 v4 x59 (0 : Int32) Z I L)))) := h
    obtain ⟨K90, eK90⟩ : ∃ K : Nat → Int32 → Int32 → Int32 → Int32 → jZ → jI → jL → Prop, K = f_X12_countWays_L90  Q n := ⟨_, rfl⟩
    have hK90 := ih
    clear eK90 K90
    generalize f_X12_countWays_L90  Q n = K90 at hK90 h
    refine j_iload E dX12_countWays_90 4 rfl ?_
    refine j_aload_n E dX12_countWays_92 0 rfl ?_
    refine j_geti E 12 0 rfl rfl (by decide) (by decide) (iw iT_12) rfl rfl (tw W_677) kv0 dX12_countWays_93 ?_
    refine j_icmp_ge E 332 dX12_countWays_96 (by decide) (fun c57 => ?_) (fun c57 => ?_)
    · have h := h.1 c57
      refine j_iconst E (v := 0) dX12_countWays_332 (by decide) ?_
      refine j_istore E 4 [(4, .int (0 : Int32)), (0, .ref v0), (1, .int v1), (2, .int v2), (3, .int v3)] dX12_countWays_333 (by decide) rfl ?_
      refine j_iconst E (v := 0) dX12_countWays_335 (by decide) ?_
      refine j_istore E 5 [(5, .int (0 : Int32)), (4, .int (0 : Int32)), (0, .ref v0), (1, .int v1), (2, .int v2), (3, .int v3)] dX12_countWays_336 (by decide) rfl ?_
      obtain ⟨n58, h⟩ := h
      refine j_sub [2, 3, 4, 5, 1, 0] rfl ?_
      exact m_X12_countWays_L338 E  n58 v0 v1 v2 v3 (0 : Int32) (0 : Int32) Z I L hZ hx kv0 h
    · have h := h.2 c57
      refine j_iload E dX12_countWays_99 4 rfl ?_
      refine j_iconst E (v := 1) dX12_countWays_101 (by decide) ?_
      refine j_iadd E dX12_countWays_102 ?_
      refine j_topi (fun x59 ex59 => ?_)
      have h := h x59 ex59
      refine j_istore E 5 [(5, .int x59), (0, .ref v0), (1, .int v1), (2, .int v2), (3, .int v3), (4, .int v4)] dX12_countWays_103 (by decide) rfl ?_
      refine j_iconst E (v := 0) dX12_countWays_105 (by decide) ?_
      refine j_istore E 6 [(6, .int (0 : Int32)), (5, .int x59), (0, .ref v0), (1, .int v1), (2, .int v2), (3, .int v3), (4, .int v4)] dX12_countWays_106 (by decide) rfl ?_
      obtain ⟨n60, h⟩ := h
      refine j_sub [2, 3, 4, 5, 6, 1, 0] rfl ?_
      exact m_X12_countWays_L108 E K90 hK90 n60 v0 v1 v2 v3 v4 x59 (0 : Int32) Z I L hZ hx kv0 h
set_option maxRecDepth 100000 in
def f_X12_countWays_L47 (K33 : Nat → Int32 → Int32 → Int32 → Int32 → jZ → jI → jL → Prop) (Q : Int32 → jZ → jI → jL → Prop) : Nat → Nat → Int32 → Int32 → Int32 → Int32 → Int32 → jZ → jI → jL → Prop
  | 0 => fun _ _ _ _ _ _ _ _ _ => False
  | n + 1 => fun v0 v1 v2 v3 v4 v5 Z I L => ((v2 < v5 → (∀ x62 : Int32, x62 = v4 + 1 → K33 v0 v1 v2 v3 x62 Z I L)) ∧ (¬ (v2 < v5) → (∀ b63 : Nat, jr Z v0 45 = some b63 → (vp_in ((v4 * (1000 : Int32)) + v5) 484000 ∧ (∀ I65 : jI, I65 = jpI I b63 ((v4 * (1000 : Int32)) + v5).toNatClampNeg (0 : Int32) → (∀ x66 : Int32, x66 = v5 + 1 → (f_X12_countWays_L47 K33 Q n) v0 v1 v2 v3 v4 x66 Z I65 L))))))
set_option maxHeartbeats 4000000 in
set_option maxRecDepth 100000 in
theorem m_X12_countWays_L47 {G : jG} {Z0 : jZ} {Q : Int32 → jZ → jI → jL → Prop} (E : jE G cX12_countWays RX12 w_X12_countWays 11 (some .int) { frames := 4, cells := 0, slots := 0, locals := 99 } (xrtI Z0 Q)) (K33 : Nat → Int32 → Int32 → Int32 → Int32 → jZ → jI → jL → Prop) (hK33 : ∀ (v0 : Nat) (v1 : Int32) (v2 : Int32) (v3 : Int32) (v4 : Int32) (Z : jZ) (I : jI) (L : jL), SH Z → jext Z0 Z → jk Z v0 12 → K33 v0 v1 v2 v3 v4 Z I L → jJ G 11 33 [(0, .ref v0), (1, .int v1), (2, .int v2), (3, .int v3), (4, .int v4)] [] Z I L 0 0) : ∀ (n : Nat) (v0 : Nat) (v1 : Int32) (v2 : Int32) (v3 : Int32) (v4 : Int32) (v5 : Int32) (Z : jZ) (I : jI) (L : jL), SH Z → jext Z0 Z → jk Z v0 12 → f_X12_countWays_L47 K33 Q n v0 v1 v2 v3 v4 v5 Z I L → jJ G 11 47 [(0, .ref v0), (1, .int v1), (2, .int v2), (3, .int v3), (4, .int v4), (5, .int v5)] [] Z I L 0 0 := by
  intro n
  induction n with
  | zero => intro v0 v1 v2 v3 v4 v5 Z I L _ _ _ h; exact h.elim
  | succ n ih =>
    intro v0 v1 v2 v3 v4 v5 Z I L hZ hx kv0 h
    have h : ((v2 < v5 → (∀ x62 : Int32, x62 = v4 + 1 → K33 v0 v1 v2 v3 x62 Z I L)) ∧ (¬ (v2 < v5) → (∀ b63 : Nat, jr Z v0 45 = some b63 → (vp_in ((v4 * (1000 : Int32)) + v5) 484000 ∧ (∀ I65 : jI, I65 = jpI I b63 ((v4 * (1000 : Int32)) + v5).toNatClampNeg (0 : Int32) → (∀ x66 : Int32, x66 = v5 + 1 → (f_X12_countWays_L47 K33 Q n) v0 v1 v2 v3 v4 x66 Z I65 L)))))) := h
    obtain ⟨K47, eK47⟩ : ∃ K : Nat → Int32 → Int32 → Int32 → Int32 → Int32 → jZ → jI → jL → Prop, K = f_X12_countWays_L47 K33 Q n := ⟨_, rfl⟩
    have hK47 := ih
    clear eK47 K47
    generalize f_X12_countWays_L47 K33 Q n = K47 at hK47 h
    refine j_iload E dX12_countWays_47 5 rfl ?_
    refine j_iload_n E dX12_countWays_49 2 rfl ?_
    refine j_icmp_gt E 74 dX12_countWays_50 (by decide) (fun c61 => ?_) (fun c61 => ?_)
    · have h := h.1 c61
      obtain ⟨x62, ex62⟩ : ∃ y : Int32, y = v4 + 1 := ⟨_, rfl⟩
      have h := h x62 ex62
      refine j_iinc E x62 [(4, .int x62), (0, .ref v0), (1, .int v1), (2, .int v2), (3, .int v3), (5, .int v5)] dX12_countWays_74 4 rfl (by rw [ex62]; rfl) (by decide) rfl ?_
      refine j_goto E 33 dX12_countWays_77 (by decide) ?_
      refine j_sub [1, 2, 3, 4, 0] rfl ?_
      exact hK33 v0 v1 v2 v3 x62 Z I L hZ hx kv0 h
    · have h := h.2 c61
      refine j_aload_n E dX12_countWays_53 0 rfl ?_
      obtain ⟨b63, eb63, kb63, lb63⟩ := sh_f hZ kv0 (j := 45) (k := 14) (m := 484000) rfl
      have h := h b63 eb63
      refine j_getr E 12 45 rfl rfl (by decide) (by decide) (iw iT_12) rfl rfl (tw W_831) kv0 eb63 dX12_countWays_54 ?_
      refine j_iload E dX12_countWays_57 4 rfl ?_
      refine j_sipush E (v := 1000) dX12_countWays_59 (by decide) ?_
      refine j_imul E dX12_countWays_62 ?_
      refine j_iload E dX12_countWays_63 5 rfl ?_
      refine j_iadd E dX12_countWays_65 ?_
      refine j_iconst E (v := 0) dX12_countWays_66 (by decide) ?_
      obtain ⟨o64, h⟩ := h
      refine j_iast E kb63 (by rw [lb63]; exact o64) dX12_countWays_67 ?_
      refine j_nmI (fun I65 eI65 => ?_)
      have h := h I65 eI65
      obtain ⟨x66, ex66⟩ : ∃ y : Int32, y = v5 + 1 := ⟨_, rfl⟩
      have h := h x66 ex66
      refine j_iinc E x66 [(5, .int x66), (0, .ref v0), (1, .int v1), (2, .int v2), (3, .int v3), (4, .int v4)] dX12_countWays_68 5 rfl (by rw [ex66]; rfl) (by decide) rfl ?_
      refine j_goto E 47 dX12_countWays_71 (by decide) ?_
      refine j_sub [1, 2, 3, 4, 5, 0] rfl ?_
      exact hK47 v0 v1 v2 v3 v4 x66 Z I65 L hZ hx kv0 h
set_option maxRecDepth 100000 in
def f_X12_countWays_L33  (Q : Int32 → jZ → jI → jL → Prop) : Nat → Nat → Int32 → Int32 → Int32 → Int32 → jZ → jI → jL → Prop
  | 0 => fun _ _ _ _ _ _ _ _ => False
  | n + 1 => fun v0 v1 v2 v3 v4 Z I L => (∀ b67 : Nat, jr Z v0 9 = some b67 → (vp_in v1 6 ∧ (((I b67 v1.toNatClampNeg) < v4 → (∀ b70 : Nat, jr Z v0 45 = some b70 → (∀ I71 : jI, I71 = jpI I b70 (0 : Int32).toNatClampNeg (1 : Int32) → (∃ m90 : Nat, f_X12_countWays_L90  Q m90 v0 v1 v2 v3 (0 : Int32) Z I71 L)))) ∧ (¬ ((I b67 v1.toNatClampNeg) < v4) → (∃ m47 : Nat, f_X12_countWays_L47 (f_X12_countWays_L33 Q n) Q m47 v0 v1 v2 v3 v4 (0 : Int32) Z I L)))))
set_option maxHeartbeats 4000000 in
set_option maxRecDepth 100000 in
theorem m_X12_countWays_L33 {G : jG} {Z0 : jZ} {Q : Int32 → jZ → jI → jL → Prop} (E : jE G cX12_countWays RX12 w_X12_countWays 11 (some .int) { frames := 4, cells := 0, slots := 0, locals := 99 } (xrtI Z0 Q))  : ∀ (n : Nat) (v0 : Nat) (v1 : Int32) (v2 : Int32) (v3 : Int32) (v4 : Int32) (Z : jZ) (I : jI) (L : jL), SH Z → jext Z0 Z → jk Z v0 12 → f_X12_countWays_L33  Q n v0 v1 v2 v3 v4 Z I L → jJ G 11 33 [(0, .ref v0), (1, .int v1), (2, .int v2), (3, .int v3), (4, .int v4)] [] Z I L 0 0 := by
  intro n
  induction n with
  | zero => intro v0 v1 v2 v3 v4 Z I L _ _ _ h; exact h.elim
  | succ n ih =>
    intro v0 v1 v2 v3 v4 Z I L hZ hx kv0 h
    have h : (∀ b67 : Nat, jr Z v0 9 = some b67 → (vp_in v1 6 ∧ (((I b67 v1.toNatClampNeg) < v4 → (∀ b70 : Nat, jr Z v0 45 = some b70 → (∀ I71 : jI, I71 = jpI I b70 (0 : Int32).toNatClampNeg (1 : Int32) → (∃ m90 : Nat, f_X12_countWays_L90  Q m90 v0 v1 v2 v3 (0 : Int32) Z I71 L)))) ∧ (¬ ((I b67 v1.toNatClampNeg) < v4) → (∃ m47 : Nat, f_X12_countWays_L47 (f_X12_countWays_L33 Q n) Q m47 v0 v1 v2 v3 v4 (0 : Int32) Z I L))))) := h
    obtain ⟨K33, eK33⟩ : ∃ K : Nat → Int32 → Int32 → Int32 → Int32 → jZ → jI → jL → Prop, K = f_X12_countWays_L33  Q n := ⟨_, rfl⟩
    have hK33 := ih
    clear eK33 K33
    generalize f_X12_countWays_L33  Q n = K33 at hK33 h
    refine j_iload E dX12_countWays_33 4 rfl ?_
    refine j_aload_n E dX12_countWays_35 0 rfl ?_
    obtain ⟨b67, eb67, kb67, lb67⟩ := sh_f hZ kv0 (j := 9) (k := 14) (m := 6) rfl
    have h := h b67 eb67
    refine j_getr E 12 9 rfl rfl (by decide) (by decide) (iw iT_12) rfl rfl (tw W_718) kv0 eb67 dX12_countWays_36 ?_
    refine j_iload_n E dX12_countWays_39 1 rfl ?_
    obtain ⟨o68, h⟩ := h
    refine j_iald E kb67 (by rw [lb67]; exact o68) dX12_countWays_40 ?_
    refine j_icmp_gt E 80 dX12_countWays_41 (by decide) (fun c69 => ?_) (fun c69 => ?_)
    · have h := h.1 c69
      refine j_aload_n E dX12_countWays_80 0 rfl ?_
      obtain ⟨b70, eb70, kb70, lb70⟩ := sh_f hZ kv0 (j := 45) (k := 14) (m := 484000) rfl
      have h := h b70 eb70
      refine j_getr E 12 45 rfl rfl (by decide) (by decide) (iw iT_12) rfl rfl (tw W_831) kv0 eb70 dX12_countWays_81 ?_
      refine j_iconst E (v := 0) dX12_countWays_84 (by decide) ?_
      refine j_iconst E (v := 1) dX12_countWays_85 (by decide) ?_
      refine j_iast E kb70 (by rw [lb70]; exact vp_in_lit (by decide)) dX12_countWays_86 ?_
      refine j_nmI (fun I71 eI71 => ?_)
      have h := h I71 eI71
      refine j_iconst E (v := 0) dX12_countWays_87 (by decide) ?_
      refine j_istore E 4 [(4, .int (0 : Int32)), (0, .ref v0), (1, .int v1), (2, .int v2), (3, .int v3)] dX12_countWays_88 (by decide) rfl ?_
      obtain ⟨n72, h⟩ := h
      refine j_sub [1, 2, 3, 4, 0] rfl ?_
      exact m_X12_countWays_L90 E  n72 v0 v1 v2 v3 (0 : Int32) Z I71 L hZ hx kv0 h
    · have h := h.2 c69
      refine j_iconst E (v := 0) dX12_countWays_44 (by decide) ?_
      refine j_istore E 5 [(5, .int (0 : Int32)), (0, .ref v0), (1, .int v1), (2, .int v2), (3, .int v3), (4, .int v4)] dX12_countWays_45 (by decide) rfl ?_
      obtain ⟨n73, h⟩ := h
      refine j_sub [1, 2, 3, 4, 5, 0] rfl ?_
      exact m_X12_countWays_L47 E K33 hK33 n73 v0 v1 v2 v3 v4 (0 : Int32) Z I L hZ hx kv0 h
set_option maxRecDepth 100000 in
def f_X12_countWays (v0 : Nat) (v1 : Int32) (v2 : Int32) (Z : jZ) (I : jI) (L : jL) (Q : Int32 → jZ → jI → jL → Prop) : Prop := (∀ I74 : jI, I74 = jpI I v0 46 (-1 : Int32) → (∀ I75 : jI, I75 = jpI I74 v0 47 (0 : Int32) → (∀ b76 : Nat, jr Z v0 10 = some b76 → (vp_in v1 6 ∧ ((v2 ≤ (I75 b76 v1.toNatClampNeg) → (f_X12_layMoves v0 v1 Z I75 L (fun Z80 I81 L82 => (∃ m33 : Nat, f_X12_countWays_L33  Q m33 v0 v1 v2 (121 : Int32) (0 : Int32) Z80 I81 L82)))) ∧ (¬ (v2 ≤ (I75 b76 v1.toNatClampNeg)) → Q (0 : Int32) Z I75 L))))))
set_option maxHeartbeats 4000000 in
set_option maxRecDepth 100000 in
theorem c_X12_countWays (l : Launch) (D : va_G) (cy : jC) (v0 : Nat) (v1 : Int32) (v2 : Int32) (Z : jZ) (I : jI) (L : jL) (Q : Int32 → jZ → jI → jL → Prop) (hZ : SH Z) (kv0 : jk Z v0 12) (h : f_X12_countWays v0 v1 v2 Z I L Q) : jCt l yX12_countWays w_X12_countWays { frames := 4, cells := 0, slots := 0, locals := 99 } D cy [.ref v0, .int v1, .int v2] Z I L (xrtI Z Q) := by
  refine jCt_of (cc := cX12_countWays) (maxL := 11) (ret := (some .int)) (by decide +kernel) rfl (Nat.le_of_ble_eq_true rfl) ?_
  intro G eD eY eL E
  subst eD; subst eY; subst eL
  have E : jE G cX12_countWays RX12 w_X12_countWays 11 (some .int) { frames := 4, cells := 0, slots := 0, locals := 99 } (xrtI Z Q) := E
  have hx : jext Z Z := jext_rfl
  show jJ G 11 0 [(0, .ref v0), (1, .int v1), (2, .int v2)] [] Z I L 0 0
  refine j_aload_n E dX12_countWays_0 0 rfl ?_
  refine j_iconst E (v := -1) dX12_countWays_1 (by decide) ?_
  refine j_puti E 12 46 rfl rfl (by decide) (by decide) (iw iT_12) tyX12_ok nmX12 rfl rfl (tw W_832) rfl rfl rfl kv0 dX12_countWays_2 ?_
  refine j_nmI (fun I74 eI74 => ?_)
  have h := h I74 eI74
  refine j_aload_n E dX12_countWays_5 0 rfl ?_
  refine j_iconst E (v := 0) dX12_countWays_6 (by decide) ?_
  refine j_puti E 12 47 rfl rfl (by decide) (by decide) (iw iT_12) tyX12_ok nmX12 rfl rfl (tw W_833) rfl rfl rfl kv0 dX12_countWays_7 ?_
  refine j_nmI (fun I75 eI75 => ?_)
  have h := h I75 eI75
  refine j_iload_n E dX12_countWays_10 2 rfl ?_
  refine j_aload_n E dX12_countWays_11 0 rfl ?_
  obtain ⟨b76, eb76, kb76, lb76⟩ := sh_f hZ kv0 (j := 10) (k := 14) (m := 6) rfl
  have h := h b76 eb76
  refine j_getr E 12 10 rfl rfl (by decide) (by decide) (iw iT_12) rfl rfl (tw W_720) kv0 eb76 dX12_countWays_12 ?_
  refine j_iload_n E dX12_countWays_15 1 rfl ?_
  obtain ⟨o77, h⟩ := h
  refine j_iald E kb76 (by rw [lb76]; exact o77) dX12_countWays_16 ?_
  refine j_icmp_le E 22 dX12_countWays_17 (by decide) (fun c78 => ?_) (fun c78 => ?_)
  · have h := h.1 c78
    refine j_aload_n E dX12_countWays_22 0 rfl ?_
    refine j_iload_n E dX12_countWays_23 1 rfl ?_
    refine j_callV E [.int v1] [] (c_X12_layMoves (gL G) (gD G) (gY G) v0 v1 Z I75 L _ hZ kv0 h) (gwV W_820 W_821 W_822 W_679 W_819) rfl ⟨rfl, fy_X12_layMoves⟩ ⟨by decide, by decide⟩ (c := 12) rfl (by decide) kv0 rfl rfl (Nat.le_of_ble_eq_true rfl) ⟨Nat.zero_le _, Nat.zero_le _⟩ dX12_countWays_24 (fun v79 Z80 I81 L82 q83 => ?_)
    obtain ⟨yZ80, hZ80, rfl, h⟩ := q83
    have hZ := hZ80
    have hx : jext Z Z80 := jext_trans hx yZ80
    have k84 := (yZ80 _ _ kv0).1
    show jJ G 11 27 [(0, .ref v0), (1, .int v1), (2, .int v2)] [] Z80 I81 L82 0 0
    refine j_bipush E (v := 121) dX12_countWays_27 (by decide) ?_
    refine j_istore_n E 3 [(3, .int (121 : Int32)), (0, .ref v0), (1, .int v1), (2, .int v2)] dX12_countWays_29 rfl (by decide) rfl ?_
    refine j_iconst E (v := 0) dX12_countWays_30 (by decide) ?_
    refine j_istore E 4 [(4, .int (0 : Int32)), (3, .int (121 : Int32)), (0, .ref v0), (1, .int v1), (2, .int v2)] dX12_countWays_31 (by decide) rfl ?_
    obtain ⟨n85, h⟩ := h
    refine j_sub [2, 3, 4, 1, 0] rfl ?_
    exact m_X12_countWays_L33 E  n85 v0 v1 v2 (121 : Int32) (0 : Int32) Z80 I81 L82 hZ hx k84 h
  · have h := h.2 c78
    refine j_iconst E (v := 0) dX12_countWays_20 (by decide) ?_
    exact j_ireturn E ⟨hx, hZ, _, rfl, h⟩ (Nat.zero_le _) (Nat.zero_le _) dX12_countWays_21
set_option maxRecDepth 100000 in
def f_X12_isCost (v0 : Int32) (Z : jZ) (I : jI) (L : jL) (Q : Int32 → jI → jL → Prop) : Prop := (f_X12_in v0 (0 : Int32) (999 : Int32) Z I L (fun r6 I3 L4 => Q r6 I3 L4))
set_option maxHeartbeats 4000000 in
set_option maxRecDepth 100000 in
theorem c_X12_isCost (l : Launch) (D : va_G) (cy : jC) (v0 : Int32) (Z : jZ) (I : jI) (L : jL) (Q : Int32 → jI → jL → Prop) (hZ : SH Z)  (h : f_X12_isCost v0 Z I L Q) : jCt l yX12_isCost w_X12_isCost { frames := 1, cells := 0, slots := 0, locals := 22 } D cy [.int v0] Z I L (rtZ Z Q) := by
  refine jCt_of (cc := cX12_isCost) (maxL := 1) (ret := (some .boolean)) (by decide +kernel) rfl (Nat.le_of_ble_eq_true rfl) ?_
  intro G eD eY eL E
  subst eD; subst eY; subst eL
  have E : jE G cX12_isCost RX12 w_X12_isCost 1 (some .boolean) { frames := 1, cells := 0, slots := 0, locals := 22 } (rtZ Z Q) := E
  show jJ G 1 0 [(0, .int v0)] [] Z I L 0 0
  refine j_iload_n E dX12_isCost_0 0 rfl ?_
  refine j_iconst E (v := 0) dX12_isCost_1 (by decide) ?_
  refine j_sipush E (v := 999) dX12_isCost_2 (by decide) ?_
  refine j_callS E [.int v0, .int (0 : Int32), .int (999 : Int32)] [] (c_X12_in (gL G) (gD G) (gY G) v0 (0 : Int32) (999 : Int32) Z I L _ hZ  h) (gwS W_680 W_681 W_679 W_678) rfl fy_X12_in ⟨by decide, by decide⟩ rfl rfl (Nat.le_of_ble_eq_true rfl) ⟨Nat.zero_le _, Nat.zero_le _⟩ dX12_isCost_5 (fun v1 Z2 I3 L4 q5 => ?_)
  obtain ⟨rfl, r6, rfl, zr6, h⟩ := q5
  show jJ G 1 8 [(0, .int v0)] [.int r6] Z I3 L4 0 0
  exact j_zreturn E zr6 ⟨rfl, _, rfl, zr6, h⟩ (Nat.zero_le _) (Nat.zero_le _) dX12_isCost_8
set_option maxRecDepth 100000 in
def f_X12_ways_b27  (Q : Int64 → jZ → jI → jL → Prop)  (Z : jZ) (I : jI) (L : jL) : Prop := Q (-1 : Int64) Z I L
set_option maxHeartbeats 4000000 in
set_option maxRecDepth 100000 in
theorem m_X12_ways_b27 {G : jG} {Z0 : jZ} {Q : Int64 → jZ → jI → jL → Prop} (E : jE G cX12_ways RX12 w_X12_ways 4 (some .long) { frames := 5, cells := 0, slots := 0, locals := 129 } (xrtL Z0 Q))   (Z : jZ) (I : jI) (L : jL) (hZ : SH Z) (hx : jext Z0 Z)  (h : f_X12_ways_b27  Q  Z I L) : jJ G 4 27 [] [] Z I L 0 0 := by
  refine j_ldc2 E (tw W_793) dX12_ways_27 ?_
  exact j_lreturn E ⟨hx, hZ, _, rfl, h⟩ (Nat.zero_le _) (Nat.zero_le _) dX12_ways_30
set_option maxRecDepth 100000 in
def f_X12_ways (v0 : Nat) (v1 : Int32) (v2 : Int32) (Z : jZ) (I : jI) (L : jL) (Q : Int64 → jZ → jI → jL → Prop) : Prop := (∀ I1 : jI, I1 = jpI I v0 22 (0 : Int32) → (f_X12_isOne v0 v1 Z I1 L (fun r7 I4 L5 => ((r7 = 0 → f_X12_ways_b27  Q  Z I4 L5) ∧ (¬ (r7 = 0) → (((I4 v0 0) = 0 → f_X12_ways_b27  Q  Z I4 L5) ∧ (¬ ((I4 v0 0) = 0) → (f_X12_isCost v2 Z I4 L5 (fun r15 I12 L13 => ((¬ r15 = 0 → (f_X12_countWays v0 v1 v2 Z I12 L13 (fun r22 Z18 I19 L20 => (∀ I24 : jI, I24 = jpI I19 v0 21 (0 : Int32) → (f_X12_tell v0 ((I24 v0 47).toInt64) Z18 I24 L20 (fun I27 L28 => Q (r22.toInt64) Z18 I27 L28)))))) ∧ (r15 = 0 → f_X12_ways_b27  Q  Z I12 L13)))))))))))
set_option maxHeartbeats 4000000 in
set_option maxRecDepth 100000 in
theorem c_X12_ways (l : Launch) (D : va_G) (cy : jC) (v0 : Nat) (v1 : Int32) (v2 : Int32) (Z : jZ) (I : jI) (L : jL) (Q : Int64 → jZ → jI → jL → Prop) (hZ : SH Z) (kv0 : jk Z v0 12) (h : f_X12_ways v0 v1 v2 Z I L Q) : jCt l yX12_ways w_X12_ways { frames := 5, cells := 0, slots := 0, locals := 129 } D cy [.ref v0, .int v1, .int v2] Z I L (xrtL Z Q) := by
  refine jCt_of (cc := cX12_ways) (maxL := 4) (ret := (some .long)) (by decide +kernel) rfl (Nat.le_of_ble_eq_true rfl) ?_
  intro G eD eY eL E
  subst eD; subst eY; subst eL
  have E : jE G cX12_ways RX12 w_X12_ways 4 (some .long) { frames := 5, cells := 0, slots := 0, locals := 129 } (xrtL Z Q) := E
  have hx : jext Z Z := jext_rfl
  show jJ G 4 0 [(0, .ref v0), (1, .int v1), (2, .int v2)] [] Z I L 0 0
  refine j_aload_n E dX12_ways_0 0 rfl ?_
  refine j_iconst E (v := 0) dX12_ways_1 (by decide) ?_
  refine j_puti E 12 22 rfl rfl (by decide) (by decide) (iw iT_12) tyX12_ok nmX12 rfl rfl (tw W_674) rfl rfl rfl kv0 dX12_ways_2 ?_
  refine j_nmI (fun I1 eI1 => ?_)
  have h := h I1 eI1
  refine j_aload_n E dX12_ways_5 0 rfl ?_
  refine j_iload_n E dX12_ways_6 1 rfl ?_
  refine j_callV E [.int v1] [] (c_X12_isOne (gL G) (gD G) (gY G) v0 v1 Z I1 L _ hZ kv0 h) (gwV W_768 W_769 W_770 W_679 W_767) rfl ⟨rfl, fy_X12_isOne⟩ ⟨by decide, by decide⟩ (c := 12) rfl (by decide) kv0 rfl rfl (Nat.le_of_ble_eq_true rfl) ⟨Nat.zero_le _, Nat.zero_le _⟩ dX12_ways_7 (fun v2 Z3 I4 L5 q6 => ?_)
  obtain ⟨rfl, r7, rfl, zr7, h⟩ := q6
  show jJ G 4 10 [(0, .ref v0), (1, .int v1), (2, .int v2)] [.int r7] Z I4 L5 0 0
  refine j_if_eq E 27 dX12_ways_10 (by decide) (fun c8 => ?_) (fun c8 => ?_)
  · have h := h.1 c8
    refine j_sub [] rfl ?_
    exact m_X12_ways_b27 E   Z I4 L5 hZ hx  h
  · have h := h.2 c8
    refine j_aload_n E dX12_ways_13 0 rfl ?_
    refine j_geti E 12 0 rfl rfl (by decide) (by decide) (iw iT_12) rfl rfl (tw W_677) kv0 dX12_ways_14 ?_
    refine j_if_eq E 27 dX12_ways_17 (by decide) (fun c9 => ?_) (fun c9 => ?_)
    · have h := h.1 c9
      refine j_sub [] rfl ?_
      exact m_X12_ways_b27 E   Z I4 L5 hZ hx  h
    · have h := h.2 c9
      refine j_iload_n E dX12_ways_20 2 rfl ?_
      refine j_callS E [.int v2] [] (c_X12_isCost (gL G) (gD G) (gY G) v2 Z I4 L5 _ hZ  h) (gwS W_835 W_836 W_679 W_834) rfl fy_X12_isCost ⟨by decide, by decide⟩ rfl rfl (Nat.le_of_ble_eq_true rfl) ⟨Nat.zero_le _, Nat.zero_le _⟩ dX12_ways_21 (fun v10 Z11 I12 L13 q14 => ?_)
      obtain ⟨rfl, r15, rfl, zr15, h⟩ := q14
      show jJ G 4 24 [(0, .ref v0), (1, .int v1), (2, .int v2)] [.int r15] Z I12 L13 0 0
      refine j_if_ne E 31 dX12_ways_24 (by decide) (fun c16 => ?_) (fun c16 => ?_)
      · have h := h.1 c16
        refine j_aload_n E dX12_ways_31 0 rfl ?_
        refine j_iload_n E dX12_ways_32 1 rfl ?_
        refine j_iload_n E dX12_ways_33 2 rfl ?_
        refine j_callV E [.int v1, .int v2] [] (c_X12_countWays (gL G) (gD G) (gY G) v0 v1 v2 Z I12 L13 _ hZ kv0 h) (gwV W_838 W_839 W_840 W_679 W_837) rfl ⟨rfl, fy_X12_countWays⟩ ⟨by decide, by decide⟩ (c := 12) rfl (by decide) kv0 rfl rfl (Nat.le_of_ble_eq_true rfl) ⟨Nat.zero_le _, Nat.zero_le _⟩ dX12_ways_34 (fun v17 Z18 I19 L20 q21 => ?_)
        obtain ⟨yZ18, hZ18, r22, rfl, h⟩ := q21
        have hZ := hZ18
        have hx : jext Z Z18 := jext_trans hx yZ18
        have k23 := (yZ18 _ _ kv0).1
        show jJ G 4 37 [(0, .ref v0), (1, .int v1), (2, .int v2)] [.int r22] Z18 I19 L20 0 0
        refine j_istore_n E 3 [(3, .int r22), (0, .ref v0), (1, .int v1), (2, .int v2)] dX12_ways_37 rfl (by decide) rfl ?_
        refine j_aload_n E dX12_ways_38 1 rfl ?_
        refine j_iconst E (v := 0) dX12_ways_39 (by decide) ?_
        refine j_puti E 12 21 rfl rfl (by decide) (by decide) (iw iT_12) tyX12_ok nmX12 rfl rfl (tw W_676) rfl rfl rfl k23 dX12_ways_40 ?_
        refine j_nmI (fun I24 eI24 => ?_)
        have h := h I24 eI24
        refine j_aload_n E dX12_ways_43 1 rfl ?_
        refine j_aload_n E dX12_ways_44 1 rfl ?_
        refine j_geti E 12 47 rfl rfl (by decide) (by decide) (iw iT_12) rfl rfl (tw W_833) k23 dX12_ways_45 ?_
        refine j_i2l E dX12_ways_48 ?_
        refine j_callV E [.long ((I24 v0 47).toInt64)] [] (c_X12_tell (gL G) (gD G) (gY G) v0 ((I24 v0 47).toInt64) Z18 I24 L20 _ hZ k23 h) (gwV W_784 W_785 W_786 W_679 W_783) rfl ⟨rfl, fy_X12_tell⟩ ⟨by decide, by decide⟩ (c := 12) rfl (by decide) k23 rfl rfl (Nat.le_of_ble_eq_true rfl) ⟨Nat.zero_le _, Nat.zero_le _⟩ dX12_ways_49 (fun v25 Z26 I27 L28 q29 => ?_)
        obtain ⟨rfl, rfl, h⟩ := q29
        show jJ G 4 52 [(3, .int r22), (0, .ref v0), (1, .int v1), (2, .int v2)] [] Z18 I27 L28 0 0
        refine j_iload_n E dX12_ways_52 0 rfl ?_
        refine j_i2l E dX12_ways_53 ?_
        exact j_lreturn E ⟨hx, hZ, _, rfl, h⟩ (Nat.zero_le _) (Nat.zero_le _) dX12_ways_54
      · have h := h.2 c16
        refine j_sub [] rfl ?_
        exact m_X12_ways_b27 E   Z I12 L13 hZ hx  h
set_option maxRecDepth 100000 in
def f_X12_countTreading (v0 : Nat) (v1 : Int32) (v2 : Int32) (v3 : Int32) (Z : jZ) (I : jI) (L : jL) (Q : Int32 → jZ → jI → jL → Prop) : Prop := (f_X12_countWays v0 v1 v2 Z I L (fun r6 Z2 I3 L4 => (∀ I8 : jI, I8 = jpI I3 v0 39 v3 → (f_X12_countWays v0 v1 v2 Z2 I8 L4 (fun r14 Z10 I11 L12 => (∀ I16 : jI, I16 = jpI I11 v0 39 (-1 : Int32) → Q (r6 - r14) Z10 I16 L12))))))
set_option maxHeartbeats 4000000 in
set_option maxRecDepth 100000 in
theorem c_X12_countTreading (l : Launch) (D : va_G) (cy : jC) (v0 : Nat) (v1 : Int32) (v2 : Int32) (v3 : Int32) (Z : jZ) (I : jI) (L : jL) (Q : Int32 → jZ → jI → jL → Prop) (hZ : SH Z) (kv0 : jk Z v0 12) (h : f_X12_countTreading v0 v1 v2 v3 Z I L Q) : jCt l yX12_countTreading w_X12_countTreading { frames := 5, cells := 0, slots := 0, locals := 129 } D cy [.ref v0, .int v1, .int v2, .int v3] Z I L (xrtI Z Q) := by
  refine jCt_of (cc := cX12_countTreading) (maxL := 6) (ret := (some .int)) (by decide +kernel) rfl (Nat.le_of_ble_eq_true rfl) ?_
  intro G eD eY eL E
  subst eD; subst eY; subst eL
  have E : jE G cX12_countTreading RX12 w_X12_countTreading 6 (some .int) { frames := 5, cells := 0, slots := 0, locals := 129 } (xrtI Z Q) := E
  have hx : jext Z Z := jext_rfl
  show jJ G 6 0 [(0, .ref v0), (1, .int v1), (2, .int v2), (3, .int v3)] [] Z I L 0 0
  refine j_aload_n E dX12_countTreading_0 0 rfl ?_
  refine j_iload_n E dX12_countTreading_1 1 rfl ?_
  refine j_iload_n E dX12_countTreading_2 2 rfl ?_
  refine j_callV E [.int v1, .int v2] [] (c_X12_countWays (gL G) (gD G) (gY G) v0 v1 v2 Z I L _ hZ kv0 h) (gwV W_838 W_839 W_840 W_679 W_837) rfl ⟨rfl, fy_X12_countWays⟩ ⟨by decide, by decide⟩ (c := 12) rfl (by decide) kv0 rfl rfl (Nat.le_of_ble_eq_true rfl) ⟨Nat.zero_le _, Nat.zero_le _⟩ dX12_countTreading_3 (fun v1 Z2 I3 L4 q5 => ?_)
  obtain ⟨yZ2, hZ2, r6, rfl, h⟩ := q5
  have hZ := hZ2
  have hx : jext Z Z2 := jext_trans hx yZ2
  have k7 := (yZ2 _ _ kv0).1
  show jJ G 6 6 [(0, .ref v0), (1, .int v1), (2, .int v2), (3, .int v3)] [.int r6] Z2 I3 L4 0 0
  refine j_istore E 4 [(4, .int r6), (0, .ref v0), (1, .int v1), (2, .int v2), (3, .int v3)] dX12_countTreading_6 (by decide) rfl ?_
  refine j_aload_n E dX12_countTreading_8 1 rfl ?_
  refine j_iload_n E dX12_countTreading_9 4 rfl ?_
  refine j_puti E 12 39 rfl rfl (by decide) (by decide) (iw iT_12) tyX12_ok nmX12 rfl rfl (tw W_808) rfl rfl rfl k7 dX12_countTreading_10 ?_
  refine j_nmI (fun I8 eI8 => ?_)
  have h := h I8 eI8
  refine j_aload_n E dX12_countTreading_13 1 rfl ?_
  refine j_iload_n E dX12_countTreading_14 2 rfl ?_
  refine j_iload_n E dX12_countTreading_15 3 rfl ?_
  refine j_callV E [.int v1, .int v2] [] (c_X12_countWays (gL G) (gD G) (gY G) v0 v1 v2 Z2 I8 L4 _ hZ k7 h) (gwV W_838 W_839 W_840 W_679 W_837) rfl ⟨rfl, fy_X12_countWays⟩ ⟨by decide, by decide⟩ (c := 12) rfl (by decide) k7 rfl rfl (Nat.le_of_ble_eq_true rfl) ⟨Nat.zero_le _, Nat.zero_le _⟩ dX12_countTreading_16 (fun v9 Z10 I11 L12 q13 => ?_)
  obtain ⟨yZ10, hZ10, r14, rfl, h⟩ := q13
  have hZ := hZ10
  have hx : jext Z Z10 := jext_trans hx yZ10
  have k15 := (yZ10 _ _ k7).1
  show jJ G 6 19 [(4, .int r6), (0, .ref v0), (1, .int v1), (2, .int v2), (3, .int v3)] [.int r14] Z10 I11 L12 0 0
  refine j_istore E 5 [(5, .int r14), (4, .int r6), (0, .ref v0), (1, .int v1), (2, .int v2), (3, .int v3)] dX12_countTreading_19 (by decide) rfl ?_
  refine j_aload_n E dX12_countTreading_21 2 rfl ?_
  refine j_iconst E (v := -1) dX12_countTreading_22 (by decide) ?_
  refine j_puti E 12 39 rfl rfl (by decide) (by decide) (iw iT_12) tyX12_ok nmX12 rfl rfl (tw W_808) rfl rfl rfl k15 dX12_countTreading_23 ?_
  refine j_nmI (fun I16 eI16 => ?_)
  have h := h I16 eI16
  refine j_iload E dX12_countTreading_26 1 rfl ?_
  refine j_iload E dX12_countTreading_28 0 rfl ?_
  refine j_isub E dX12_countTreading_30 ?_
  exact j_ireturn E ⟨hx, hZ, _, rfl, h⟩ (Nat.zero_le _) (Nat.zero_le _) dX12_countTreading_31
