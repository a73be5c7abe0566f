set_option maxRecDepth 100000 in
def f_X12_readLine_L109  (Z : jZ) (Q : Int32 → jI → jL → Prop) : Nat → Nat → Int32 → Int32 → Int32 → Int32 → Int32 → Int32 → Int32 → Int32 → jI → jL → Prop
  | 0 => fun _ _ _ _ _ _ _ _ _ _ _ => False
  | n + 1 => fun v0 v1 v2 v3 v4 v5 v6 v7 v8 I L => ((v7 ≤ v8 → Q (v1 + v7) I L) ∧ (¬ (v7 ≤ v8) → (∀ x2 : Int32, x2 = ((5 : Int32) * (v1 + v8)) → (∀ b3 : Nat, jr Z v0 28 = some b3 → (vp_in x2 120 ∧ (∀ I5 : jI, I5 = jpI I b3 x2.toNatClampNeg v2 → (∀ b6 : Nat, jr Z v0 28 = some b6 → (vp_in (x2 + (1 : Int32)) 120 ∧ (∀ I8 : jI, I8 = jpI I5 b6 (x2 + (1 : Int32)).toNatClampNeg v3 → (∀ b9 : Nat, jr Z v0 28 = some b9 → (vp_in (x2 + (2 : Int32)) 120 ∧ (∀ I11 : jI, I11 = jpI I8 b9 (x2 + (2 : Int32)).toNatClampNeg v4 → (∀ b12 : Nat, jr Z v0 28 = some b12 → (vp_in (x2 + (3 : Int32)) 120 ∧ (∀ I14 : jI, I14 = jpI I11 b12 (x2 + (3 : Int32)).toNatClampNeg v5 → (∀ b15 : Nat, jr Z v0 28 = some b15 → (vp_in (x2 + (4 : Int32)) 120 ∧ (∀ I17 : jI, I17 = jpI I14 b15 (x2 + (4 : Int32)).toNatClampNeg v6 → (∀ x18 : Int32, x18 = v8 + 1 → (f_X12_readLine_L109 Z Q n) v0 v1 v2 v3 v4 v5 v6 v7 x18 I17 L)))))))))))))))))))
set_option maxHeartbeats 4000000 in
set_option maxRecDepth 100000 in
theorem m_X12_readLine_L109 {G : jG} {Z : jZ} {Q : Int32 → jI → jL → Prop} (E : jE G cX12_readLine RX12 w_X12_readLine 10 (some .int) { frames := 3, cells := 0, slots := 0, locals := 66 } (rtI Z Q)) (hZ : SH Z)  : ∀ (n : Nat) (v0 : Nat) (v1 : Int32) (v2 : Int32) (v3 : Int32) (v4 : Int32) (v5 : Int32) (v6 : Int32) (v7 : Int32) (v8 : Int32) (I : jI) (L : jL), jk Z v0 12 → f_X12_readLine_L109  Z Q n v0 v1 v2 v3 v4 v5 v6 v7 v8 I L → jJ G 10 109 [(0, .ref v0), (1, .int v1), (2, .int v2), (3, .int v3), (4, .int v4), (5, .int v5), (6, .int v6), (7, .int v7), (8, .int v8)] [] Z I L 0 0 := by
  intro n
  induction n with
  | zero => intro v0 v1 v2 v3 v4 v5 v6 v7 v8 I L _ h; exact h.elim
  | succ n ih =>
    intro v0 v1 v2 v3 v4 v5 v6 v7 v8 I L kv0 h
    have h : ((v7 ≤ v8 → Q (v1 + v7) I L) ∧ (¬ (v7 ≤ v8) → (∀ x2 : Int32, x2 = ((5 : Int32) * (v1 + v8)) → (∀ b3 : Nat, jr Z v0 28 = some b3 → (vp_in x2 120 ∧ (∀ I5 : jI, I5 = jpI I b3 x2.toNatClampNeg v2 → (∀ b6 : Nat, jr Z v0 28 = some b6 → (vp_in (x2 + (1 : Int32)) 120 ∧ (∀ I8 : jI, I8 = jpI I5 b6 (x2 + (1 : Int32)).toNatClampNeg v3 → (∀ b9 : Nat, jr Z v0 28 = some b9 → (vp_in (x2 + (2 : Int32)) 120 ∧ (∀ I11 : jI, I11 = jpI I8 b9 (x2 + (2 : Int32)).toNatClampNeg v4 → (∀ b12 : Nat, jr Z v0 28 = some b12 → (vp_in (x2 + (3 : Int32)) 120 ∧ (∀ I14 : jI, I14 = jpI I11 b12 (x2 + (3 : Int32)).toNatClampNeg v5 → (∀ b15 : Nat, jr Z v0 28 = some b15 → (vp_in (x2 + (4 : Int32)) 120 ∧ (∀ I17 : jI, I17 = jpI I14 b15 (x2 + (4 : Int32)).toNatClampNeg v6 → (∀ x18 : Int32, x18 = v8 + 1 → (f_X12_readLine_L109 Z Q n) v0 v1 v2 v3 v4 v5 v6 v7 x18 I17 L))))))))))))))))))) := h
    obtain ⟨K109, eK109⟩ : ∃ K : Nat → Int32 → Int32 → Int32 → Int32 → Int32 → Int32 → Int32 → Int32 → jI → jL → Prop, K = f_X12_readLine_L109  Z Q n := ⟨_, rfl⟩
    have hK109 := ih
    clear eK109 K109
    generalize f_X12_readLine_L109  Z Q n = K109 at hK109 h
    refine j_iload E dX12_readLine_109 8 rfl ?_
    refine j_iload E dX12_readLine_111 7 rfl ?_
    refine j_icmp_ge E 181 dX12_readLine_113 (by decide) (fun c1 => ?_) (fun c1 => ?_)
    · have h := h.1 c1
      refine j_iload_n E dX12_readLine_181 1 rfl ?_
      refine j_iload E dX12_readLine_182 7 rfl ?_
      refine j_iadd E dX12_readLine_184 ?_
      exact j_ireturn E ⟨rfl, _, rfl, h⟩ (Nat.zero_le _) (Nat.zero_le _) dX12_readLine_185
    · have h := h.2 c1
      refine j_iconst E (v := 5) dX12_readLine_116 (by decide) ?_
      refine j_iload_n E dX12_readLine_117 1 rfl ?_
      refine j_iload E dX12_readLine_118 8 rfl ?_
      refine j_iadd E dX12_readLine_120 ?_
      refine j_imul E dX12_readLine_121 ?_
      refine j_topi (fun x2 ex2 => ?_)
      have h := h x2 ex2
      refine j_istore E 9 [(9, .int x2), (0, .ref v0), (1, .int v1), (2, .int v2), (3, .int v3), (4, .int v4), (5, .int v5), (6, .int v6), (7, .int v7), (8, .int v8)] dX12_readLine_122 (by decide) rfl ?_
      refine j_aload_n E dX12_readLine_124 1 rfl ?_
      obtain ⟨b3, eb3, kb3, lb3⟩ := sh_f hZ kv0 (j := 28) (k := 14) (m := 120) rfl
      have h := h b3 eb3
      refine j_getr E 12 28 rfl rfl (by decide) (by decide) (iw iT_12) rfl rfl (tw W_723) kv0 eb3 dX12_readLine_125 ?_
      refine j_iload E dX12_readLine_128 0 rfl ?_
      refine j_iload_n E dX12_readLine_130 3 rfl ?_
      obtain ⟨o4, h⟩ := h
      refine j_iast E kb3 (by rw [lb3]; exact o4) dX12_readLine_131 ?_
      refine j_nmI (fun I5 eI5 => ?_)
      have h := h I5 eI5
      refine j_aload_n E dX12_readLine_132 1 rfl ?_
      obtain ⟨b6, eb6, kb6, lb6⟩ := sh_f hZ kv0 (j := 28) (k := 14) (m := 120) rfl
      have h := h b6 eb6
      refine j_getr E 12 28 rfl rfl (by decide) (by decide) (iw iT_12) rfl rfl (tw W_723) kv0 eb6 dX12_readLine_133 ?_
      refine j_iload E dX12_readLine_136 0 rfl ?_
      refine j_iconst E (v := 1) dX12_readLine_138 (by decide) ?_
      refine j_iadd E dX12_readLine_139 ?_
      refine j_iload_n E dX12_readLine_140 4 rfl ?_
      obtain ⟨o7, h⟩ := h
      refine j_iast E kb6 (by rw [lb6]; exact o7) dX12_readLine_141 ?_
      refine j_nmI (fun I8 eI8 => ?_)
      have h := h I8 eI8
      refine j_aload_n E dX12_readLine_142 1 rfl ?_
      obtain ⟨b9, eb9, kb9, lb9⟩ := sh_f hZ kv0 (j := 28) (k := 14) (m := 120) rfl
      have h := h b9 eb9
      refine j_getr E 12 28 rfl rfl (by decide) (by decide) (iw iT_12) rfl rfl (tw W_723) kv0 eb9 dX12_readLine_143 ?_
      refine j_iload E dX12_readLine_146 0 rfl ?_
      refine j_iconst E (v := 2) dX12_readLine_148 (by decide) ?_
      refine j_iadd E dX12_readLine_149 ?_
      refine j_iload E dX12_readLine_150 5 rfl ?_
      obtain ⟨o10, h⟩ := h
      refine j_iast E kb9 (by rw [lb9]; exact o10) dX12_readLine_152 ?_
      refine j_nmI (fun I11 eI11 => ?_)
      have h := h I11 eI11
      refine j_aload_n E dX12_readLine_153 1 rfl ?_
      obtain ⟨b12, eb12, kb12, lb12⟩ := sh_f hZ kv0 (j := 28) (k := 14) (m := 120) rfl
      have h := h b12 eb12
      refine j_getr E 12 28 rfl rfl (by decide) (by decide) (iw iT_12) rfl rfl (tw W_723) kv0 eb12 dX12_readLine_154 ?_
      refine j_iload E dX12_readLine_157 0 rfl ?_
      refine j_iconst E (v := 3) dX12_readLine_159 (by decide) ?_
      refine j_iadd E dX12_readLine_160 ?_
      refine j_iload E dX12_readLine_161 6 rfl ?_
      obtain ⟨o13, h⟩ := h
      refine j_iast E kb12 (by rw [lb12]; exact o13) dX12_readLine_163 ?_
      refine j_nmI (fun I14 eI14 => ?_)
      have h := h I14 eI14
      refine j_aload_n E dX12_readLine_164 1 rfl ?_
      obtain ⟨b15, eb15, kb15, lb15⟩ := sh_f hZ kv0 (j := 28) (k := 14) (m := 120) rfl
      have h := h b15 eb15
      refine j_getr E 12 28 rfl rfl (by decide) (by decide) (iw iT_12) rfl rfl (tw W_723) kv0 eb15 dX12_readLine_165 ?_
      refine j_iload E dX12_readLine_168 0 rfl ?_
      refine j_iconst E (v := 4) dX12_readLine_170 (by decide) ?_
      refine j_iadd E dX12_readLine_171 ?_
      refine j_iload E dX12_readLine_172 7 rfl ?_
      obtain ⟨o16, h⟩ := h
      refine j_iast E kb15 (by rw [lb15]; exact o16) dX12_readLine_174 ?_
      refine j_nmI (fun I17 eI17 => ?_)
      have h := h I17 eI17
      obtain ⟨x18, ex18⟩ : ∃ y : Int32, y = v8 + 1 := ⟨_, rfl⟩
      have h := h x18 ex18
      refine j_iinc E x18 [(8, .int x18), (9, .int x2), (0, .ref v0), (1, .int v1), (2, .int v2), (3, .int v3), (4, .int v4), (5, .int v5), (6, .int v6), (7, .int v7)] dX12_readLine_175 9 rfl (by rw [ex18]; rfl) (by decide) rfl ?_
      refine j_goto E 109 dX12_readLine_178 (by decide) ?_
      refine j_sub [2, 3, 4, 5, 6, 7, 8, 9, 0] rfl ?_
      exact hK109 v0 v1 v2 v3 v4 v5 v6 v7 x18 I17 L kv0 h
set_option maxRecDepth 100000 in
def f_X12_readLine_b95  (Z : jZ) (Q : Int32 → jI → jL → Prop) (v0 : Nat) (v1 : Int32) (v2 : Int32) (v3 : Int32) (v4 : Int32) (v5 : Int32) (v6 : Int32) (s0 : Int32) (I : jI) (L : jL) : Prop := (f_X12_fine v0 Z I L (fun r25 I21 L22 => ((¬ r25 = 0 → (∃ m109 : Nat, f_X12_readLine_L109  Z Q m109 v0 v1 v2 v3 v4 v5 v6 s0 (0 : Int32) I21 L22)) ∧ (r25 = 0 → Q v1 I21 L22))))
set_option maxHeartbeats 4000000 in
set_option maxRecDepth 100000 in
theorem m_X12_readLine_b95 {G : jG} {Z : jZ} {Q : Int32 → jI → jL → Prop} (E : jE G cX12_readLine RX12 w_X12_readLine 10 (some .int) { frames := 3, cells := 0, slots := 0, locals := 66 } (rtI Z Q)) (hZ : SH Z)  (v0 : Nat) (v1 : Int32) (v2 : Int32) (v3 : Int32) (v4 : Int32) (v5 : Int32) (v6 : Int32) (s0 : Int32) (I : jI) (L : jL) (kv0 : jk Z v0 12) (h : f_X12_readLine_b95  Z Q v0 v1 v2 v3 v4 v5 v6 s0 I L) : jJ G 10 95 [(0, .ref v0), (1, .int v1), (2, .int v2), (3, .int v3), (4, .int v4), (5, .int v5), (6, .int v6)] [.int s0] Z I L 0 0 := by
  refine j_istore E 7 [(7, .int s0), (0, .ref v0), (1, .int v1), (2, .int v2), (3, .int v3), (4, .int v4), (5, .int v5), (6, .int v6)] dX12_readLine_95 (by decide) rfl ?_
  refine j_aload_n E dX12_readLine_97 1 rfl ?_
  refine j_callV E [] [] (c_X12_fine (gL G) (gD G) (gY G) v0 Z I L _ hZ kv0 h) (gwV W_708 W_709 W_710 W_695 W_707) rfl ⟨rfl, fy_X12_fine⟩ ⟨by decide, by decide⟩ (c := 12) rfl (by decide) kv0 rfl rfl (Nat.le_of_ble_eq_true rfl) ⟨Nat.zero_le _, Nat.zero_le _⟩ dX12_readLine_98 (fun v19 Z20 I21 L22 q23 => ?_)
  obtain ⟨rfl, r25, rfl, zr25, h⟩ := q23
  show jJ G 10 101 [(7, .int s0), (0, .ref v0), (1, .int v1), (2, .int v2), (3, .int v3), (4, .int v4), (5, .int v5), (6, .int v6)] [.int r25] Z I21 L22 0 0
  refine j_if_ne E 106 dX12_readLine_101 (by decide) (fun c26 => ?_) (fun c26 => ?_)
  · have h := h.1 c26
    refine j_iconst E (v := 0) dX12_readLine_106 (by decide) ?_
    refine j_istore E 8 [(8, .int (0 : Int32)), (7, .int s0), (0, .ref v0), (1, .int v1), (2, .int v2), (3, .int v3), (4, .int v4), (5, .int v5), (6, .int v6)] dX12_readLine_107 (by decide) rfl ?_
    obtain ⟨n27, h⟩ := h
    refine j_sub [2, 3, 4, 5, 6, 7, 8, 1, 0] rfl ?_
    exact m_X12_readLine_L109 E hZ  n27 v0 v1 v2 v3 v4 v5 v6 s0 (0 : Int32) I21 L22 kv0 h
  · have h := h.2 c26
    refine j_iload_n E dX12_readLine_104 2 rfl ?_
    exact j_ireturn E ⟨rfl, _, rfl, h⟩ (Nat.zero_le _) (Nat.zero_le _) dX12_readLine_105
set_option maxRecDepth 100000 in
def f_X12_readLine_b70  (Z : jZ) (Q : Int32 → jI → jL → Prop) (v0 : Nat) (v1 : Int32) (v2 : Int32) (v3 : Int32) (v4 : Int32) (v5 : Int32) (s0 : Int32) (I : jI) (L : jL) : Prop := (f_X12_passes v0 (42 : Int32) Z I L (fun r34 I30 L31 => ((r34 = 0 → f_X12_readLine_b95  Z Q v0 v1 v2 v3 v4 v5 s0 (1 : Int32) I30 L31) ∧ (¬ (r34 = 0) → (f_X12_number v0 (2 : Int32) (1 : Int32) ((24 : Int32) - v1) Z I30 L31 (fun r42 I38 L39 => f_X12_readLine_b95  Z Q v0 v1 v2 v3 v4 v5 s0 r42 I38 L39))))))
set_option maxHeartbeats 4000000 in
set_option maxRecDepth 100000 in
theorem m_X12_readLine_b70 {G : jG} {Z : jZ} {Q : Int32 → jI → jL → Prop} (E : jE G cX12_readLine RX12 w_X12_readLine 10 (some .int) { frames := 3, cells := 0, slots := 0, locals := 66 } (rtI Z Q)) (hZ : SH Z)  (v0 : Nat) (v1 : Int32) (v2 : Int32) (v3 : Int32) (v4 : Int32) (v5 : Int32) (s0 : Int32) (I : jI) (L : jL) (kv0 : jk Z v0 12) (h : f_X12_readLine_b70  Z Q v0 v1 v2 v3 v4 v5 s0 I L) : jJ G 10 70 [(0, .ref v0), (1, .int v1), (2, .int v2), (3, .int v3), (4, .int v4), (5, .int v5)] [.int s0] Z I L 0 0 := by
  refine j_istore E 6 [(6, .int s0), (0, .ref v0), (1, .int v1), (2, .int v2), (3, .int v3), (4, .int v4), (5, .int v5)] dX12_readLine_70 (by decide) rfl ?_
  refine j_aload_n E dX12_readLine_72 1 rfl ?_
  refine j_bipush E (v := 42) dX12_readLine_73 (by decide) ?_
  refine j_callV E [.int (42 : Int32)] [] (c_X12_passes (gL G) (gD G) (gY G) v0 (42 : Int32) Z I L _ hZ kv0 h) (gwV W_716 W_717 W_718 W_695 W_715) rfl ⟨rfl, fy_X12_passes⟩ ⟨by decide, by decide⟩ (c := 12) rfl (by decide) kv0 rfl rfl (Nat.le_of_ble_eq_true rfl) ⟨Nat.zero_le _, Nat.zero_le _⟩ dX12_readLine_75 (fun v28 Z29 I30 L31 q32 => ?_)
  obtain ⟨rfl, r34, rfl, zr34, h⟩ := q32
  show jJ G 10 78 [(6, .int s0), (0, .ref v0), (1, .int v1), (2, .int v2), (3, .int v3), (4, .int v4), (5, .int v5)] [.int r34] Z I30 L31 0 0
  refine j_if_eq E 94 dX12_readLine_78 (by decide) (fun c35 => ?_) (fun c35 => ?_)
  · have h := h.1 c35
    refine j_iconst E (v := 1) dX12_readLine_94 (by decide) ?_
    refine j_sub [1, 2, 3, 4, 5, 6, 0] rfl ?_
    exact m_X12_readLine_b95 E hZ  v0 v1 v2 v3 v4 v5 s0 (1 : Int32) I30 L31 kv0 h
  · have h := h.2 c35
    refine j_aload_n E dX12_readLine_81 1 rfl ?_
    refine j_iconst E (v := 2) dX12_readLine_82 (by decide) ?_
    refine j_iconst E (v := 1) dX12_readLine_83 (by decide) ?_
    refine j_bipush E (v := 24) dX12_readLine_84 (by decide) ?_
    refine j_iload_n E dX12_readLine_86 2 rfl ?_
    refine j_isub E dX12_readLine_87 ?_
    refine j_callV E [.int (2 : Int32), .int (1 : Int32), .int ((24 : Int32) - v1)] [] (c_X12_number (gL G) (gD G) (gY G) v0 (2 : Int32) (1 : Int32) ((24 : Int32) - v1) Z I30 L31 _ hZ kv0 h) (gwV W_725 W_726 W_727 W_695 W_724) rfl ⟨rfl, fy_X12_number⟩ ⟨by decide, by decide⟩ (c := 12) rfl (by decide) kv0 rfl rfl (Nat.le_of_ble_eq_true rfl) ⟨Nat.zero_le _, Nat.zero_le _⟩ dX12_readLine_88 (fun v36 Z37 I38 L39 q40 => ?_)
    obtain ⟨rfl, r42, rfl, h⟩ := q40
    show jJ G 10 91 [(6, .int s0), (0, .ref v0), (1, .int v1), (2, .int v2), (3, .int v3), (4, .int v4), (5, .int v5)] [.int r42] Z I38 L39 0 0
    refine j_goto E 95 dX12_readLine_91 (by decide) ?_
    refine j_sub [1, 2, 3, 4, 5, 6, 0] rfl ?_
    exact m_X12_readLine_b95 E hZ  v0 v1 v2 v3 v4 v5 s0 r42 I38 L39 kv0 h
set_option maxRecDepth 100000 in
def f_X12_readLine (v0 : Nat) (v1 : Int32) (Z : jZ) (I : jI) (L : jL) (Q : Int32 → jI → jL → Prop) : Prop := (f_X12_number v0 (2 : Int32) (1 : Int32) (30 : Int32) Z I L (fun r49 I45 L46 => (f_X12_need v0 (44 : Int32) Z I45 L46 (fun I52 L53 => (f_X12_number v0 (2 : Int32) (0 : Int32) (9 : Int32) Z I52 L53 (fun r62 I58 L59 => (f_X12_need v0 (44 : Int32) Z I58 L59 (fun I65 L66 => (f_X12_number v0 (2 : Int32) (0 : Int32) (20 : Int32) Z I65 L66 (fun r75 I71 L72 => (f_X12_need v0 (64 : Int32) Z I71 L72 (fun I78 L79 => (f_X12_number v0 (1 : Int32) (0 : Int32) (7 : Int32) Z I78 L79 (fun r88 I84 L85 => (f_X12_passes v0 (119 : Int32) Z I84 L85 (fun r95 I91 L92 => ((r95 = 0 → f_X12_readLine_b70  Z Q v0 v1 r49 r62 r75 r88 (0 : Int32) I91 L92) ∧ (¬ (r95 = 0) → f_X12_readLine_b70  Z Q v0 v1 r49 r62 r75 r88 (1 : Int32) I91 L92))))))))))))))))))
set_option maxHeartbeats 4000000 in
set_option maxRecDepth 100000 in
theorem c_X12_readLine (l : Launch) (D : va_G) (cy : jC) (v0 : Nat) (v1 : Int32) (Z : jZ) (I : jI) (L : jL) (Q : Int32 → jI → jL → Prop) (hZ : SH Z) (kv0 : jk Z v0 12) (h : f_X12_readLine v0 v1 Z I L Q) : jCt l yX12_readLine w_X12_readLine { frames := 3, cells := 0, slots := 0, locals := 66 } D cy [.ref v0, .int v1] Z I L (rtI Z Q) := by
  refine jCt_of (cc := cX12_readLine) (maxL := 10) (ret := (some .int)) (by decide +kernel) rfl (Nat.le_of_ble_eq_true rfl) ?_
  intro G eD eY eL E
  subst eD; subst eY; subst eL
  have E : jE G cX12_readLine RX12 w_X12_readLine 10 (some .int) { frames := 3, cells := 0, slots := 0, locals := 66 } (rtI Z Q) := E
  show jJ G 10 0 [(0, .ref v0), (1, .int v1)] [] Z I L 0 0
  refine j_aload_n E dX12_readLine_0 0 rfl ?_
  refine j_iconst E (v := 2) dX12_readLine_1 (by decide) ?_
  refine j_iconst E (v := 1) dX12_readLine_2 (by decide) ?_
  refine j_bipush E (v := 30) dX12_readLine_3 (by decide) ?_
  refine j_callV E [.int (2 : Int32), .int (1 : Int32), .int (30 : Int32)] [] (c_X12_number (gL G) (gD G) (gY G) v0 (2 : Int32) (1 : Int32) (30 : Int32) Z I L _ hZ kv0 h) (gwV W_725 W_726 W_727 W_695 W_724) rfl ⟨rfl, fy_X12_number⟩ ⟨by decide, by decide⟩ (c := 12) rfl (by decide) kv0 rfl rfl (Nat.le_of_ble_eq_true rfl) ⟨Nat.zero_le _, Nat.zero_le _⟩ dX12_readLine_5 (fun v43 Z44 I45 L46 q47 => ?_)
  obtain ⟨rfl, r49, rfl, h⟩ := q47
  show jJ G 10 8 [(0, .ref v0), (1, .int v1)] [.int r49] Z I45 L46 0 0
  refine j_istore_n E 2 [(2, .int r49), (0, .ref v0), (1, .int v1)] dX12_readLine_8 rfl (by decide) rfl ?_
  refine j_aload_n E dX12_readLine_9 1 rfl ?_
  refine j_bipush E (v := 44) dX12_readLine_10 (by decide) ?_
  refine j_callV E [.int (44 : Int32)] [] (c_X12_need (gL G) (gD G) (gY G) v0 (44 : Int32) Z I45 L46 _ hZ kv0 h) (gwV W_729 W_730 W_731 W_695 W_728) rfl ⟨rfl, fy_X12_need⟩ ⟨by decide, by decide⟩ (c := 12) rfl (by decide) kv0 rfl rfl (Nat.le_of_ble_eq_true rfl) ⟨Nat.zero_le _, Nat.zero_le _⟩ dX12_readLine_12 (fun v50 Z51 I52 L53 q54 => ?_)
  obtain ⟨rfl, rfl, h⟩ := q54
  show jJ G 10 15 [(2, .int r49), (0, .ref v0), (1, .int v1)] [] Z I52 L53 0 0
  refine j_aload_n E dX12_readLine_15 1 rfl ?_
  refine j_iconst E (v := 2) dX12_readLine_16 (by decide) ?_
  refine j_iconst E (v := 0) dX12_readLine_17 (by decide) ?_
  refine j_bipush E (v := 9) dX12_readLine_18 (by decide) ?_
  refine j_callV E [.int (2 : Int32), .int (0 : Int32), .int (9 : Int32)] [] (c_X12_number (gL G) (gD G) (gY G) v0 (2 : Int32) (0 : Int32) (9 : Int32) Z I52 L53 _ hZ kv0 h) (gwV W_725 W_726 W_727 W_695 W_724) rfl ⟨rfl, fy_X12_number⟩ ⟨by decide, by decide⟩ (c := 12) rfl (by decide) kv0 rfl rfl (Nat.le_of_ble_eq_true rfl) ⟨Nat.zero_le _, Nat.zero_le _⟩ dX12_readLine_20 (fun v56 Z57 I58 L59 q60 => ?_)
  obtain ⟨rfl, r62, rfl, h⟩ := q60
  show jJ G 10 23 [(2, .int r49), (0, .ref v0), (1, .int v1)] [.int r62] Z I58 L59 0 0
  refine j_istore_n E 3 [(3, .int r62), (2, .int r49), (0, .ref v0), (1, .int v1)] dX12_readLine_23 rfl (by decide) rfl ?_
  refine j_aload_n E dX12_readLine_24 2 rfl ?_
  refine j_bipush E (v := 44) dX12_readLine_25 (by decide) ?_
  refine j_callV E [.int (44 : Int32)] [] (c_X12_need (gL G) (gD G) (gY G) v0 (44 : Int32) Z I58 L59 _ hZ kv0 h) (gwV W_729 W_730 W_731 W_695 W_728) rfl ⟨rfl, fy_X12_need⟩ ⟨by decide, by decide⟩ (c := 12) rfl (by decide) kv0 rfl rfl (Nat.le_of_ble_eq_true rfl) ⟨Nat.zero_le _, Nat.zero_le _⟩ dX12_readLine_27 (fun v63 Z64 I65 L66 q67 => ?_)
  obtain ⟨rfl, rfl, h⟩ := q67
  show jJ G 10 30 [(3, .int r62), (2, .int r49), (0, .ref v0), (1, .int v1)] [] Z I65 L66 0 0
  refine j_aload_n E dX12_readLine_30 2 rfl ?_
  refine j_iconst E (v := 2) dX12_readLine_31 (by decide) ?_
  refine j_iconst E (v := 0) dX12_readLine_32 (by decide) ?_
  refine j_bipush E (v := 20) dX12_readLine_33 (by decide) ?_
  refine j_callV E [.int (2 : Int32), .int (0 : Int32), .int (20 : Int32)] [] (c_X12_number (gL G) (gD G) (gY G) v0 (2 : Int32) (0 : Int32) (20 : Int32) Z I65 L66 _ hZ kv0 h) (gwV W_725 W_726 W_727 W_695 W_724) rfl ⟨rfl, fy_X12_number⟩ ⟨by decide, by decide⟩ (c := 12) rfl (by decide) kv0 rfl rfl (Nat.le_of_ble_eq_true rfl) ⟨Nat.zero_le _, Nat.zero_le _⟩ dX12_readLine_35 (fun v69 Z70 I71 L72 q73 => ?_)
  obtain ⟨rfl, r75, rfl, h⟩ := q73
  show jJ G 10 38 [(3, .int r62), (2, .int r49), (0, .ref v0), (1, .int v1)] [.int r75] Z I71 L72 0 0
  refine j_istore E 4 [(4, .int r75), (3, .int r62), (2, .int r49), (0, .ref v0), (1, .int v1)] dX12_readLine_38 (by decide) rfl ?_
  refine j_aload_n E dX12_readLine_40 3 rfl ?_
  refine j_bipush E (v := 64) dX12_readLine_41 (by decide) ?_
  refine j_callV E [.int (64 : Int32)] [] (c_X12_need (gL G) (gD G) (gY G) v0 (64 : Int32) Z I71 L72 _ hZ kv0 h) (gwV W_729 W_730 W_731 W_695 W_728) rfl ⟨rfl, fy_X12_need⟩ ⟨by decide, by decide⟩ (c := 12) rfl (by decide) kv0 rfl rfl (Nat.le_of_ble_eq_true rfl) ⟨Nat.zero_le _, Nat.zero_le _⟩ dX12_readLine_43 (fun v76 Z77 I78 L79 q80 => ?_)
  obtain ⟨rfl, rfl, h⟩ := q80
  show jJ G 10 46 [(4, .int r75), (3, .int r62), (2, .int r49), (0, .ref v0), (1, .int v1)] [] Z I78 L79 0 0
  refine j_aload_n E dX12_readLine_46 3 rfl ?_
  refine j_iconst E (v := 1) dX12_readLine_47 (by decide) ?_
  refine j_iconst E (v := 0) dX12_readLine_48 (by decide) ?_
  refine j_bipush E (v := 7) dX12_readLine_49 (by decide) ?_
  refine j_callV E [.int (1 : Int32), .int (0 : Int32), .int (7 : Int32)] [] (c_X12_number (gL G) (gD G) (gY G) v0 (1 : Int32) (0 : Int32) (7 : Int32) Z I78 L79 _ hZ kv0 h) (gwV W_725 W_726 W_727 W_695 W_724) rfl ⟨rfl, fy_X12_number⟩ ⟨by decide, by decide⟩ (c := 12) rfl (by decide) kv0 rfl rfl (Nat.le_of_ble_eq_true rfl) ⟨Nat.zero_le _, Nat.zero_le _⟩ dX12_readLine_51 (fun v82 Z83 I84 L85 q86 => ?_)
  obtain ⟨rfl, r88, rfl, h⟩ := q86
  show jJ G 10 54 [(4, .int r75), (3, .int r62), (2, .int r49), (0, .ref v0), (1, .int v1)] [.int r88] Z I84 L85 0 0
  refine j_istore E 5 [(5, .int r88), (4, .int r75), (3, .int r62), (2, .int r49), (0, .ref v0), (1, .int v1)] dX12_readLine_54 (by decide) rfl ?_
  refine j_aload_n E dX12_readLine_56 4 rfl ?_
  refine j_bipush E (v := 119) dX12_readLine_57 (by decide) ?_
  refine j_callV E [.int (119 : Int32)] [] (c_X12_passes (gL G) (gD G) (gY G) v0 (119 : Int32) Z I84 L85 _ hZ kv0 h) (gwV W_716 W_717 W_718 W_695 W_715) rfl ⟨rfl, fy_X12_passes⟩ ⟨by decide, by decide⟩ (c := 12) rfl (by decide) kv0 rfl rfl (Nat.le_of_ble_eq_true rfl) ⟨Nat.zero_le _, Nat.zero_le _⟩ dX12_readLine_59 (fun v89 Z90 I91 L92 q93 => ?_)
  obtain ⟨rfl, r95, rfl, zr95, h⟩ := q93
  show jJ G 10 62 [(5, .int r88), (4, .int r75), (3, .int r62), (2, .int r49), (0, .ref v0), (1, .int v1)] [.int r95] Z I91 L92 0 0
  refine j_if_eq E 69 dX12_readLine_62 (by decide) (fun c96 => ?_) (fun c96 => ?_)
  · have h := h.1 c96
    refine j_iconst E (v := 0) dX12_readLine_69 (by decide) ?_
    refine j_sub [4, 5, 3, 2, 1, 0] rfl ?_
    exact m_X12_readLine_b70 E hZ  v0 v1 r49 r62 r75 r88 (0 : Int32) I91 L92 kv0 h
  · have h := h.2 c96
    refine j_iconst E (v := 1) dX12_readLine_65 (by decide) ?_
    refine j_goto E 70 dX12_readLine_66 (by decide) ?_
    refine j_sub [4, 5, 3, 2, 1, 0] rfl ?_
    exact m_X12_readLine_b70 E hZ  v0 v1 r49 r62 r75 r88 (1 : Int32) I91 L92 kv0 h
set_option maxRecDepth 100000 in
def f_X12_stairs_L301 (B : Nat × Nat)  (Q : Int32 → jZ → jI → jL → Prop) : Nat → Nat → Int32 → Int32 → jZ → jI → jL → Prop
  | 0 => fun _ _ _ _ _ _ => False
  | n + 1 => fun v0 v1 v3 Z I L => (((I v0 8) ≤ v3 → Q v1 Z I L) ∧ (¬ ((I v0 8) ≤ v3) → (∀ b2 : Nat, jr Z v0 14 = some b2 → (vp_in v3 6 ∧ (∀ I4 : jI, I4 = jpI I b2 v3.toNatClampNeg (-1 : Int32) → (∀ b5 : Nat, jr Z v0 15 = some b5 → (∀ b6 : Nat, jr Z v0 9 = some b6 → (vp_in v3 6 ∧ (vp_in v3 6 ∧ (∀ I9 : jI, I9 = jpI I4 b5 v3.toNatClampNeg (I4 b6 v3.toNatClampNeg) → (∀ b10 : Nat, jr Z v0 16 = some b10 → (∀ b11 : Nat, jr Z v0 10 = some b11 → (vp_in v3 6 ∧ (vp_in v3 6 ∧ (∀ I14 : jI, I14 = jpI I9 b10 v3.toNatClampNeg (I9 b11 v3.toNatClampNeg) → (∀ x15 : Int32, x15 = v3 + 1 → (f_X12_stairs_L301 B Q n) v0 v1 x15 Z I14 L))))))))))))))))
set_option maxHeartbeats 4000000 in
set_option maxRecDepth 100000 in
theorem m_X12_stairs_L301 {G : jG} {Z0 : jZ} {B : Nat × Nat} {Q : Int32 → jZ → jI → jL → Prop} (E : jE G cX12_stairs RX12 w_X12_stairs 5 (some .int) (jrm B 4 95 Z0) jRF) (EU : jEU G B Z0 (urtI B Z0 Q))  : ∀ (n : Nat) (v0 : Nat) (v1 : Int32) (v3 : Int32) (Z : jZ) (I : jI) (L : jL), SH Z → jext Z0 Z → jle Z0 Z → jin B Z → jk Z v0 12 → f_X12_stairs_L301 B  Q n v0 v1 v3 Z I L → jJ G 5 301 [(0, .ref v0), (1, .int v1), (3, .int v3)] [] Z I L (jcz Z - jcz Z0) (jsz Z - jsz Z0) := by
  intro n
  induction n with
  | zero => intro v0 v1 v3 Z I L _ _ _ _ _ h; exact h.elim
  | succ n ih =>
    intro v0 v1 v3 Z I L hZ hx hc hb kv0 h
    have h : (((I v0 8) ≤ v3 → Q v1 Z I L) ∧ (¬ ((I v0 8) ≤ v3) → (∀ b2 : Nat, jr Z v0 14 = some b2 → (vp_in v3 6 ∧ (∀ I4 : jI, I4 = jpI I b2 v3.toNatClampNeg (-1 : Int32) → (∀ b5 : Nat, jr Z v0 15 = some b5 → (∀ b6 : Nat, jr Z v0 9 = some b6 → (vp_in v3 6 ∧ (vp_in v3 6 ∧ (∀ I9 : jI, I9 = jpI I4 b5 v3.toNatClampNeg (I4 b6 v3.toNatClampNeg) → (∀ b10 : Nat, jr Z v0 16 = some b10 → (∀ b11 : Nat, jr Z v0 10 = some b11 → (vp_in v3 6 ∧ (vp_in v3 6 ∧ (∀ I14 : jI, I14 = jpI I9 b10 v3.toNatClampNeg (I9 b11 v3.toNatClampNeg) → (∀ x15 : Int32, x15 = v3 + 1 → (f_X12_stairs_L301 B Q n) v0 v1 x15 Z I14 L)))))))))))))))) := h
    obtain ⟨K301, eK301⟩ : ∃ K : Nat → Int32 → Int32 → jZ → jI → jL → Prop, K = f_X12_stairs_L301 B  Q n := ⟨_, rfl⟩
    have hK301 := ih
    clear eK301 K301
    generalize f_X12_stairs_L301 B  Q n = K301 at hK301 h
    refine j_iload_n E dX12_stairs_301 2 rfl ?_
    refine j_aload_n E dX12_stairs_302 0 rfl ?_
    refine j_geti E 12 8 rfl rfl (by decide) (by decide) (iw iT_12) rfl rfl (tw W_698) kv0 dX12_stairs_303 ?_
    refine j_icmp_ge E 346 dX12_stairs_306 (by decide) (fun c1 => ?_) (fun c1 => ?_)
    · have h := h.1 c1
      refine j_iload_n E dX12_stairs_346 1 rfl ?_
      exact ju_ireturn E EU hc hb ⟨hx, hZ, hb, _, rfl, h⟩ dX12_stairs_347
    · have h := h.2 c1
      refine j_aload_n E dX12_stairs_309 0 rfl ?_
      obtain ⟨b2, eb2, kb2, lb2⟩ := sh_f hZ kv0 (j := 14) (k := 14) (m := 6) rfl
      have h := h b2 eb2
      refine j_getr E 12 14 rfl rfl (by decide) (by decide) (iw iT_12) rfl rfl (tw W_732) kv0 eb2 dX12_stairs_310 ?_
      refine j_iload_n E dX12_stairs_313 2 rfl ?_
      refine j_iconst E (v := -1) dX12_stairs_314 (by decide) ?_
      obtain ⟨o3, h⟩ := h
      refine j_iast E kb2 (by rw [lb2]; exact o3) dX12_stairs_315 ?_
      refine j_nmI (fun I4 eI4 => ?_)
      have h := h I4 eI4
      refine j_aload_n E dX12_stairs_316 0 rfl ?_
      obtain ⟨b5, eb5, kb5, lb5⟩ := sh_f hZ kv0 (j := 15) (k := 14) (m := 6) rfl
      have h := h b5 eb5
      refine j_getr E 12 15 rfl rfl (by decide) (by decide) (iw iT_12) rfl rfl (tw W_733) kv0 eb5 dX12_stairs_317 ?_
      refine j_iload_n E dX12_stairs_320 2 rfl ?_
      refine j_aload_n E dX12_stairs_321 0 rfl ?_
      obtain ⟨b6, eb6, kb6, lb6⟩ := sh_f hZ kv0 (j := 9) (k := 14) (m := 6) rfl
      have h := h b6 eb6
      refine j_getr E 12 9 rfl rfl (by decide) (by decide) (iw iT_12) rfl rfl (tw W_734) kv0 eb6 dX12_stairs_322 ?_
      refine j_iload_n E dX12_stairs_325 2 rfl ?_
      obtain ⟨o7, h⟩ := h
      refine j_iald E kb6 (by rw [lb6]; exact o7) dX12_stairs_326 ?_
      obtain ⟨o8, h⟩ := h
      refine j_iast E kb5 (by rw [lb5]; exact o8) dX12_stairs_327 ?_
      refine j_nmI (fun I9 eI9 => ?_)
      have h := h I9 eI9
      refine j_aload_n E dX12_stairs_328 0 rfl ?_
      obtain ⟨b10, eb10, kb10, lb10⟩ := sh_f hZ kv0 (j := 16) (k := 14) (m := 6) rfl
      have h := h b10 eb10
      refine j_getr E 12 16 rfl rfl (by decide) (by decide) (iw iT_12) rfl rfl (tw W_735) kv0 eb10 dX12_stairs_329 ?_
      refine j_iload_n E dX12_stairs_332 2 rfl ?_
      refine j_aload_n E dX12_stairs_333 0 rfl ?_
      obtain ⟨b11, eb11, kb11, lb11⟩ := sh_f hZ kv0 (j := 10) (k := 14) (m := 6) rfl
      have h := h b11 eb11
      refine j_getr E 12 10 rfl rfl (by decide) (by decide) (iw iT_12) rfl rfl (tw W_736) kv0 eb11 dX12_stairs_334 ?_
      refine j_iload_n E dX12_stairs_337 2 rfl ?_
      obtain ⟨o12, h⟩ := h
      refine j_iald E kb11 (by rw [lb11]; exact o12) dX12_stairs_338 ?_
      obtain ⟨o13, h⟩ := h
      refine j_iast E kb10 (by rw [lb10]; exact o13) dX12_stairs_339 ?_
      refine j_nmI (fun I14 eI14 => ?_)
      have h := h I14 eI14
      obtain ⟨x15, ex15⟩ : ∃ y : Int32, y = v3 + 1 := ⟨_, rfl⟩
      have h := h x15 ex15
      refine j_iinc E x15 [(3, .int x15), (0, .ref v0), (1, .int v1)] dX12_stairs_340 2 rfl (by rw [ex15]; rfl) (by decide) rfl ?_
      refine j_goto E 301 dX12_stairs_343 (by decide) ?_
      refine j_sub [1, 2, 0] rfl ?_
      exact hK301 v0 v1 x15 Z I14 L hZ hx hc hb kv0 h
set_option maxRecDepth 100000 in
def f_X12_stairs_L280 (B : Nat × Nat)  (Q : Int32 → jZ → jI → jL → Prop) : Nat → Nat → Int32 → Int32 → jZ → jI → jL → Prop
  | 0 => fun _ _ _ _ _ _ => False
  | n + 1 => fun v0 v1 v3 Z I L => (((8 : Int32) ≤ v3 → (∃ m301 : Nat, f_X12_stairs_L301 B  Q m301 v0 v1 (0 : Int32) Z I L)) ∧ (¬ ((8 : Int32) ≤ v3) → (∀ b18 : Nat, jr Z v0 17 = some b18 → (vp_in v3 8 ∧ (∀ I20 : jI, I20 = jpI I b18 v3.toNatClampNeg (0 : Int32) → (∀ x21 : Int32, x21 = v3 + 1 → (f_X12_stairs_L280 B Q n) v0 v1 x21 Z I20 L))))))
set_option maxHeartbeats 4000000 in
set_option maxRecDepth 100000 in
theorem m_X12_stairs_L280 {G : jG} {Z0 : jZ} {B : Nat × Nat} {Q : Int32 → jZ → jI → jL → Prop} (E : jE G cX12_stairs RX12 w_X12_stairs 5 (some .int) (jrm B 4 95 Z0) jRF) (EU : jEU G B Z0 (urtI B Z0 Q))  : ∀ (n : Nat) (v0 : Nat) (v1 : Int32) (v3 : Int32) (Z : jZ) (I : jI) (L : jL), SH Z → jext Z0 Z → jle Z0 Z → jin B Z → jk Z v0 12 → f_X12_stairs_L280 B  Q n v0 v1 v3 Z I L → jJ G 5 280 [(0, .ref v0), (1, .int v1), (3, .int v3)] [] Z I L (jcz Z - jcz Z0) (jsz Z - jsz Z0) := by
  intro n
  induction n with
  | zero => intro v0 v1 v3 Z I L _ _ _ _ _ h; exact h.elim
  | succ n ih =>
    intro v0 v1 v3 Z I L hZ hx hc hb kv0 h
    have h : (((8 : Int32) ≤ v3 → (∃ m301 : Nat, f_X12_stairs_L301 B  Q m301 v0 v1 (0 : Int32) Z I L)) ∧ (¬ ((8 : Int32) ≤ v3) → (∀ b18 : Nat, jr Z v0 17 = some b18 → (vp_in v3 8 ∧ (∀ I20 : jI, I20 = jpI I b18 v3.toNatClampNeg (0 : Int32) → (∀ x21 : Int32, x21 = v3 + 1 → (f_X12_stairs_L280 B Q n) v0 v1 x21 Z I20 L)))))) := h
    obtain ⟨K280, eK280⟩ : ∃ K : Nat → Int32 → Int32 → jZ → jI → jL → Prop, K = f_X12_stairs_L280 B  Q n := ⟨_, rfl⟩
    have hK280 := ih
    clear eK280 K280
    generalize f_X12_stairs_L280 B  Q n = K280 at hK280 h
    refine j_iload_n E dX12_stairs_280 2 rfl ?_
    refine j_bipush E (v := 8) dX12_stairs_281 (by decide) ?_
    refine j_icmp_ge E 299 dX12_stairs_283 (by decide) (fun c16 => ?_) (fun c16 => ?_)
    · have h := h.1 c16
      refine j_iconst E (v := 0) dX12_stairs_299 (by decide) ?_
      refine j_istore_n E 3 [(3, .int (0 : Int32)), (0, .ref v0), (1, .int v1)] dX12_stairs_300 rfl (by decide) rfl ?_
      obtain ⟨n17, h⟩ := h
      refine j_sub [1, 2, 0] rfl ?_
      exact m_X12_stairs_L301 E EU  n17 v0 v1 (0 : Int32) Z I L hZ hx hc hb kv0 h
    · have h := h.2 c16
      refine j_aload_n E dX12_stairs_286 0 rfl ?_
      obtain ⟨b18, eb18, kb18, lb18⟩ := sh_f hZ kv0 (j := 17) (k := 14) (m := 8) rfl
      have h := h b18 eb18
      refine j_getr E 12 17 rfl rfl (by decide) (by decide) (iw iT_12) rfl rfl (tw W_737) kv0 eb18 dX12_stairs_287 ?_
      refine j_iload_n E dX12_stairs_290 2 rfl ?_
      refine j_iconst E (v := 0) dX12_stairs_291 (by decide) ?_
      obtain ⟨o19, h⟩ := h
      refine j_iast E kb18 (by rw [lb18]; exact o19) dX12_stairs_292 ?_
      refine j_nmI (fun I20 eI20 => ?_)
      have h := h I20 eI20
      obtain ⟨x21, ex21⟩ : ∃ y : Int32, y = v3 + 1 := ⟨_, rfl⟩
      have h := h x21 ex21
      refine j_iinc E x21 [(3, .int x21), (0, .ref v0), (1, .int v1)] dX12_stairs_293 2 rfl (by rw [ex21]; rfl) (by decide) rfl ?_
      refine j_goto E 280 dX12_stairs_296 (by decide) ?_
      refine j_sub [1, 2, 0] rfl ?_
      exact hK280 v0 v1 x21 Z I20 L hZ hx hc hb kv0 h
set_option maxRecDepth 100000 in
def f_X12_stairs_b256 (B : Nat × Nat) (K131 : Nat → Int32 → Int32 → jZ → jI → jL → Prop) (Q : Int32 → jZ → jI → jL → Prop) (v0 : Nat) (v1 : Int32) (v3 : Int32) (s0 : Nat) (s1 : Int32) (s2 : Int32) (Z : jZ) (I : jI) (L : jL) : Prop := (vp_in s1 (jlen Z s0) ∧ (∀ I23 : jI, I23 = jpI I s0 s1.toNatClampNeg (vp_nar .boolean s2) → (∀ x24 : Int32, x24 = v3 + 1 → K131 v0 v1 x24 Z I23 L)))
set_option maxHeartbeats 4000000 in
set_option maxRecDepth 100000 in
theorem m_X12_stairs_b256 {G : jG} {B : Nat × Nat} {Z0 : jZ} {Q : Int32 → jZ → jI → jL → Prop} (E : jE G cX12_stairs RX12 w_X12_stairs 5 (some .int) (jrm B 4 95 Z0) jRF) (EU : jEU G B Z0 (urtI B Z0 Q)) (K131 : Nat → Int32 → Int32 → jZ → jI → jL → Prop) (hK131 : ∀ (v0 : Nat) (v1 : Int32) (v3 : Int32) (Z : jZ) (I : jI) (L : jL), SH Z → jext Z0 Z → jle Z0 Z → jin B Z → jk Z v0 12 → K131 v0 v1 v3 Z I L → jJ G 5 131 [(0, .ref v0), (1, .int v1), (3, .int v3)] [] Z I L (jcz Z - jcz Z0) (jsz Z - jsz Z0)) (v0 : Nat) (v1 : Int32) (v3 : Int32) (s0 : Nat) (s1 : Int32) (s2 : Int32) (Z : jZ) (I : jI) (L : jL) (hZ : SH Z) (hx : jext Z0 Z) (hc : jle Z0 Z) (hb : jin B Z) (kv0 : jk Z v0 12) (ks0 : jk Z s0 16) (h : f_X12_stairs_b256 B K131 Q v0 v1 v3 s0 s1 s2 Z I L) : jJ G 5 256 [(0, .ref v0), (1, .int v1), (3, .int v3)] [.int s2, .int s1, .ref s0] Z I L (jcz Z - jcz Z0) (jsz Z - jsz Z0) := by
  obtain ⟨o22, h⟩ := h
  refine j_zast E ks0 o22 dX12_stairs_256 ?_
  refine j_nmI (fun I23 eI23 => ?_)
  have h := h I23 eI23
  obtain ⟨x24, ex24⟩ : ∃ y : Int32, y = v3 + 1 := ⟨_, rfl⟩
  have h := h x24 ex24
  refine j_iinc E x24 [(3, .int x24), (0, .ref v0), (1, .int v1)] dX12_stairs_257 2 rfl (by rw [ex24]; rfl) (by decide) rfl ?_
  refine j_goto E 131 dX12_stairs_260 (by decide) ?_
  refine j_sub [1, 2, 0] rfl ?_
  exact hK131 v0 v1 x24 Z I23 L hZ hx hc hb kv0 h
set_option maxRecDepth 100000 in
def f_X12_stairs_b225 (B : Nat × Nat) (K131 : Nat → Int32 → Int32 → jZ → jI → jL → Prop) (K185 : Nat → Int32 → Int32 → Int32 → jZ → jI → jL → Prop) (Q : Int32 → jZ → jI → jL → Prop) (v0 : Nat) (v1 : Int32) (v3 : Int32) (v4 : Int32) (s0 : Nat) (s1 : Int32) (s2 : Int32) (Z : jZ) (I : jI) (L : jL) : Prop := (vp_in s1 (jlen Z s0) ∧ (∀ I26 : jI, I26 = jpI I s0 s1.toNatClampNeg s2 → (∀ x27 : Int32, x27 = v4 + 1 → K185 v0 v1 v3 x27 Z I26 L)))
set_option maxHeartbeats 4000000 in
set_option maxRecDepth 100000 in
theorem m_X12_stairs_b225 {G : jG} {B : Nat × Nat} {Z0 : jZ} {Q : Int32 → jZ → jI → jL → Prop} (E : jE G cX12_stairs RX12 w_X12_stairs 5 (some .int) (jrm B 4 95 Z0) jRF) (EU : jEU G B Z0 (urtI B Z0 Q)) (K131 : Nat → Int32 → Int32 → jZ → jI → jL → Prop) (hK131 : ∀ (v0 : Nat) (v1 : Int32) (v3 : Int32) (Z : jZ) (I : jI) (L : jL), SH Z → jext Z0 Z → jle Z0 Z → jin B Z → jk Z v0 12 → K131 v0 v1 v3 Z I L → jJ G 5 131 [(0, .ref v0), (1, .int v1), (3, .int v3)] [] Z I L (jcz Z - jcz Z0) (jsz Z - jsz Z0)) (K185 : Nat → Int32 → Int32 → Int32 → jZ → jI → jL → Prop) (hK185 : ∀ (v0 : Nat) (v1 : Int32) (v3 : Int32) (v4 : Int32) (Z : jZ) (I : jI) (L : jL), SH Z → jext Z0 Z → jle Z0 Z → jin B Z → jk Z v0 12 → K185 v0 v1 v3 v4 Z I L → jJ G 5 185 [(0, .ref v0), (1, .int v1), (3, .int v3), (4, .int v4)] [] Z I L (jcz Z - jcz Z0) (jsz Z - jsz Z0)) (v0 : Nat) (v1 : Int32) (v3 : Int32) (v4 : Int32) (s0 : Nat) (s1 : Int32) (s2 : Int32) (Z : jZ) (I : jI) (L : jL) (hZ : SH Z) (hx : jext Z0 Z) (hc : jle Z0 Z) (hb : jin B Z) (kv0 : jk Z v0 12) (ks0 : jk Z s0 14) (h : f_X12_stairs_b225 B K131 K185 Q v0 v1 v3 v4 s0 s1 s2 Z I L) : jJ G 5 225 [(0, .ref v0), (1, .int v1), (3, .int v3), (4, .int v4)] [.int s2, .int s1, .ref s0] Z I L (jcz Z - jcz Z0) (jsz Z - jsz Z0) := by
  obtain ⟨o25, h⟩ := h
  refine j_iast E ks0 o25 dX12_stairs_225 ?_
  refine j_nmI (fun I26 eI26 => ?_)
  have h := h I26 eI26
  obtain ⟨x27, ex27⟩ : ∃ y : Int32, y = v4 + 1 := ⟨_, rfl⟩
  have h := h x27 ex27
  refine j_iinc E x27 [(4, .int x27), (0, .ref v0), (1, .int v1), (3, .int v3)] dX12_stairs_226 3 rfl (by rw [ex27]; rfl) (by decide) rfl ?_
  refine j_goto E 185 dX12_stairs_229 (by decide) ?_
  refine j_sub [1, 2, 3, 0] rfl ?_
  exact hK185 v0 v1 v3 x27 Z I26 L hZ hx hc hb kv0 h
set_option maxRecDepth 100000 in
def f_X12_stairs_L185 (B : Nat × Nat) (K131 : Nat → Int32 → Int32 → jZ → jI → jL → Prop) (Q : Int32 → jZ → jI → jL → Prop) : Nat → Nat → Int32 → Int32 → Int32 → jZ → jI → jL → Prop
  | 0 => fun _ _ _ _ _ _ _ => False
  | n + 1 => fun v0 v1 v3 v4 Z I L => (((8 : Int32) ≤ v4 → (∀ b29 : Nat, jr Z v0 4 = some b29 → (∀ b30 : Nat, jr Z v0 28 = some b30 → (vp_in (((5 : Int32) * v3) + (4 : Int32)) 120 ∧ ((¬ (I b30 (((5 : Int32) * v3) + (4 : Int32)).toNatClampNeg) = (1 : Int32) → f_X12_stairs_b256 B K131 Q v0 v1 v3 b29 v3 (0 : Int32) Z I L) ∧ ((I b30 (((5 : Int32) * v3) + (4 : Int32)).toNatClampNeg) = (1 : Int32) → f_X12_stairs_b256 B K131 Q v0 v1 v3 b29 v3 (1 : Int32) Z I L)))))) ∧ (¬ ((8 : Int32) ≤ v4) → (∀ b33 : Nat, jr Z v0 5 = some b33 → (∀ b34 : Nat, jr Z v0 28 = some b34 → (vp_in (((5 : Int32) * v3) + (3 : Int32)) 120 ∧ ((¬ v4 = (I b34 (((5 : Int32) * v3) + (3 : Int32)).toNatClampNeg) → f_X12_stairs_b225 B K131 (f_X12_stairs_L185 B K131 Q n) Q v0 v1 v3 v4 b33 (((8 : Int32) * v3) + v4) (0 : Int32) Z I L) ∧ (v4 = (I b34 (((5 : Int32) * v3) + (3 : Int32)).toNatClampNeg) → f_X12_stairs_b225 B K131 (f_X12_stairs_L185 B K131 Q n) Q v0 v1 v3 v4 b33 (((8 : Int32) * v3) + v4) (720 : Int32) Z I L)))))))
set_option maxHeartbeats 4000000 in
set_option maxRecDepth 100000 in
theorem m_X12_stairs_L185 {G : jG} {Z0 : jZ} {B : Nat × Nat} {Q : Int32 → jZ → jI → jL → Prop} (E : jE G cX12_stairs RX12 w_X12_stairs 5 (some .int) (jrm B 4 95 Z0) jRF) (EU : jEU G B Z0 (urtI B Z0 Q)) (K131 : Nat → Int32 → Int32 → jZ → jI → jL → Prop) (hK131 : ∀ (v0 : Nat) (v1 : Int32) (v3 : Int32) (Z : jZ) (I : jI) (L : jL), SH Z → jext Z0 Z → jle Z0 Z → jin B Z → jk Z v0 12 → K131 v0 v1 v3 Z I L → jJ G 5 131 [(0, .ref v0), (1, .int v1), (3, .int v3)] [] Z I L (jcz Z - jcz Z0) (jsz Z - jsz Z0)) : ∀ (n : Nat) (v0 : Nat) (v1 : Int32) (v3 : Int32) (v4 : Int32) (Z : jZ) (I : jI) (L : jL), SH Z → jext Z0 Z → jle Z0 Z → jin B Z → jk Z v0 12 → f_X12_stairs_L185 B K131 Q n v0 v1 v3 v4 Z I L → jJ G 5 185 [(0, .ref v0), (1, .int v1), (3, .int v3), (4, .int v4)] [] Z I L (jcz Z - jcz Z0) (jsz Z - jsz Z0) := by
  intro n
  induction n with
  | zero => intro v0 v1 v3 v4 Z I L _ _ _ _ _ h; exact h.elim
  | succ n ih =>
    intro v0 v1 v3 v4 Z I L hZ hx hc hb kv0 h
    have h : (((8 : Int32) ≤ v4 → (∀ b29 : Nat, jr Z v0 4 = some b29 → (∀ b30 : Nat, jr Z v0 28 = some b30 → (vp_in (((5 : Int32) * v3) + (4 : Int32)) 120 ∧ ((¬ (I b30 (((5 : Int32) * v3) + (4 : Int32)).toNatClampNeg) = (1 : Int32) → f_X12_stairs_b256 B K131 Q v0 v1 v3 b29 v3 (0 : Int32) Z I L) ∧ ((I b30 (((5 : Int32) * v3) + (4 : Int32)).toNatClampNeg) = (1 : Int32) → f_X12_stairs_b256 B K131 Q v0 v1 v3 b29 v3 (1 : Int32) Z I L)))))) ∧ (¬ ((8 : Int32) ≤ v4) → (∀ b33 : Nat, jr Z v0 5 = some b33 → (∀ b34 : Nat, jr Z v0 28 = some b34 → (vp_in (((5 : Int32) * v3) + (3 : Int32)) 120 ∧ ((¬ v4 = (I b34 (((5 : Int32) * v3) + (3 : Int32)).toNatClampNeg) → f_X12_stairs_b225 B K131 (f_X12_stairs_L185 B K131 Q n) Q v0 v1 v3 v4 b33 (((8 : Int32) * v3) + v4) (0 : Int32) Z I L) ∧ (v4 = (I b34 (((5 : Int32) * v3) + (3 : Int32)).toNatClampNeg) → f_X12_stairs_b225 B K131 (f_X12_stairs_L185 B K131 Q n) Q v0 v1 v3 v4 b33 (((8 : Int32) * v3) + v4) (720 : Int32) Z I L))))))) := h
    obtain ⟨K185, eK185⟩ : ∃ K : Nat → Int32 → Int32 → Int32 → jZ → jI → jL → Prop, K = f_X12_stairs_L185 B K131 Q n := ⟨_, rfl⟩
    have hK185 := ih
    clear eK185 K185
    generalize f_X12_stairs_L185 B K131 Q n = K185 at hK185 h
    refine j_iload E dX12_stairs_185 3 rfl ?_
    refine j_bipush E (v := 8) dX12_stairs_187 (by decide) ?_
    refine j_icmp_ge E 232 dX12_stairs_189 (by decide) (fun c28 => ?_) (fun c28 => ?_)
    · have h := h.1 c28
      refine j_aload_n E dX12_stairs_232 0 rfl ?_
      obtain ⟨b29, eb29, kb29, lb29⟩ := sh_f hZ kv0 (j := 4) (k := 16) (m := 24) rfl
      have h := h b29 eb29
      refine j_getr E 12 4 rfl rfl (by decide) (by decide) (iw iT_12) rfl rfl (tw W_738) kv0 eb29 dX12_stairs_233 ?_
      refine j_iload_n E dX12_stairs_236 2 rfl ?_
      refine j_aload_n E dX12_stairs_237 0 rfl ?_
      obtain ⟨b30, eb30, kb30, lb30⟩ := sh_f hZ kv0 (j := 28) (k := 14) (m := 120) rfl
      have h := h b30 eb30
      refine j_getr E 12 28 rfl rfl (by decide) (by decide) (iw iT_12) rfl rfl (tw W_723) kv0 eb30 dX12_stairs_238 ?_
      refine j_iconst E (v := 5) dX12_stairs_241 (by decide) ?_
      refine j_iload_n E dX12_stairs_242 2 rfl ?_
      refine j_imul E dX12_stairs_243 ?_
      refine j_iconst E (v := 4) dX12_stairs_244 (by decide) ?_
      refine j_iadd E dX12_stairs_245 ?_
      obtain ⟨o31, h⟩ := h
      refine j_iald E kb30 (by rw [lb30]; exact o31) dX12_stairs_246 ?_
      refine j_iconst E (v := 1) dX12_stairs_247 (by decide) ?_
      refine j_icmp_ne E 255 dX12_stairs_248 (by decide) (fun c32 => ?_) (fun c32 => ?_)
      · have h := h.1 c32
        refine j_iconst E (v := 0) dX12_stairs_255 (by decide) ?_
        refine j_sub [0, 1, 2] rfl ?_
        exact m_X12_stairs_b256 E EU K131 hK131 v0 v1 v3 b29 v3 (0 : Int32) Z I L hZ hx hc hb kv0 kb29 h
      · have h := h.2 c32
        refine j_iconst E (v := 1) dX12_stairs_251 (by decide) ?_
        refine j_goto E 256 dX12_stairs_252 (by decide) ?_
        refine j_sub [0, 1, 2] rfl ?_
        exact m_X12_stairs_b256 E EU K131 hK131 v0 v1 v3 b29 v3 (1 : Int32) Z I L hZ hx hc hb kv0 kb29 h
    · have h := h.2 c28
      refine j_aload_n E dX12_stairs_192 0 rfl ?_
      obtain ⟨b33, eb33, kb33, lb33⟩ := sh_f hZ kv0 (j := 5) (k := 14) (m := 192) rfl
      have h := h b33 eb33
      refine j_getr E 12 5 rfl rfl (by decide) (by decide) (iw iT_12) rfl rfl (tw W_699) kv0 eb33 dX12_stairs_193 ?_
      refine j_bipush E (v := 8) dX12_stairs_196 (by decide) ?_
      refine j_iload_n E dX12_stairs_198 2 rfl ?_
      refine j_imul E dX12_stairs_199 ?_
      refine j_iload E dX12_stairs_200 3 rfl ?_
      refine j_iadd E dX12_stairs_202 ?_
      refine j_iload E dX12_stairs_203 3 rfl ?_
      refine j_aload_n E dX12_stairs_205 0 rfl ?_
      obtain ⟨b34, eb34, kb34, lb34⟩ := sh_f hZ kv0 (j := 28) (k := 14) (m := 120) rfl
      have h := h b34 eb34
      refine j_getr E 12 28 rfl rfl (by decide) (by decide) (iw iT_12) rfl rfl (tw W_723) kv0 eb34 dX12_stairs_206 ?_
      refine j_iconst E (v := 5) dX12_stairs_209 (by decide) ?_
      refine j_iload_n E dX12_stairs_210 2 rfl ?_
      refine j_imul E dX12_stairs_211 ?_
      refine j_iconst E (v := 3) dX12_stairs_212 (by decide) ?_
      refine j_iadd E dX12_stairs_213 ?_
      obtain ⟨o35, h⟩ := h
      refine j_iald E kb34 (by rw [lb34]; exact o35) dX12_stairs_214 ?_
      refine j_icmp_ne E 224 dX12_stairs_215 (by decide) (fun c36 => ?_) (fun c36 => ?_)
      · have h := h.1 c36
        refine j_iconst E (v := 0) dX12_stairs_224 (by decide) ?_
        refine j_sub [0, 1, 2, 3] rfl ?_
        exact m_X12_stairs_b225 E EU K131 hK131 K185 hK185 v0 v1 v3 v4 b33 (((8 : Int32) * v3) + v4) (0 : Int32) Z I L hZ hx hc hb kv0 kb33 h
      · have h := h.2 c36
        refine j_sipush E (v := 720) dX12_stairs_218 (by decide) ?_
        refine j_goto E 225 dX12_stairs_221 (by decide) ?_
        refine j_sub [0, 1, 2, 3] rfl ?_
        exact m_X12_stairs_b225 E EU K131 hK131 K185 hK185 v0 v1 v3 v4 b33 (((8 : Int32) * v3) + v4) (720 : Int32) Z I L hZ hx hc hb kv0 kb33 h
set_option maxRecDepth 100000 in
def f_X12_stairs_L131 (B : Nat × Nat)  (Q : Int32 → jZ → jI → jL → Prop) : Nat → Nat → Int32 → Int32 → jZ → jI → jL → Prop
  | 0 => fun _ _ _ _ _ _ => False
  | n + 1 => fun v0 v1 v3 Z I L => ((v1 ≤ v3 → (∀ I38 : jI, I38 = jpI I v0 7 ((I v0 7) + (1 : Int32)) → (∀ I39 : jI, I39 = jpI I38 v0 52 (0 : Int32) → (∃ m280 : Nat, f_X12_stairs_L280 B  Q m280 v0 v1 (0 : Int32) Z I39 L)))) ∧ (¬ (v1 ≤ v3) → (∀ b41 : Nat, jr Z v0 1 = some b41 → (∀ b42 : Nat, jr Z v0 28 = some b42 → (vp_in ((5 : Int32) * v3) 120 ∧ (vp_in v3 24 ∧ (∀ I45 : jI, I45 = jpI I b41 v3.toNatClampNeg (I b42 ((5 : Int32) * v3).toNatClampNeg) → (∀ b46 : Nat, jr Z v0 2 = some b46 → (∀ b47 : Nat, jr Z v0 28 = some b47 → (vp_in (((5 : Int32) * v3) + (1 : Int32)) 120 ∧ (vp_in v3 24 ∧ (∀ I50 : jI, I50 = jpI I45 b46 v3.toNatClampNeg (I45 b47 (((5 : Int32) * v3) + (1 : Int32)).toNatClampNeg) → (∀ b51 : Nat, jr Z v0 3 = some b51 → (∀ b52 : Nat, jr Z v0 28 = some b52 → (vp_in (((5 : Int32) * v3) + (2 : Int32)) 120 ∧ (vp_in v3 24 ∧ (∀ I55 : jI, I55 = jpI I50 b51 v3.toNatClampNeg (I50 b52 (((5 : Int32) * v3) + (2 : Int32)).toNatClampNeg) → (∃ m185 : Nat, f_X12_stairs_L185 B (f_X12_stairs_L131 B Q n) Q m185 v0 v1 v3 (0 : Int32) Z I55 L))))))))))))))))))
set_option maxHeartbeats 4000000 in
set_option maxRecDepth 100000 in
theorem m_X12_stairs_L131 {G : jG} {Z0 : jZ} {B : Nat × Nat} {Q : Int32 → jZ → jI → jL → Prop} (E : jE G cX12_stairs RX12 w_X12_stairs 5 (some .int) (jrm B 4 95 Z0) jRF) (EU : jEU G B Z0 (urtI B Z0 Q))  : ∀ (n : Nat) (v0 : Nat) (v1 : Int32) (v3 : Int32) (Z : jZ) (I : jI) (L : jL), SH Z → jext Z0 Z → jle Z0 Z → jin B Z → jk Z v0 12 → f_X12_stairs_L131 B  Q n v0 v1 v3 Z I L → jJ G 5 131 [(0, .ref v0), (1, .int v1), (3, .int v3)] [] Z I L (jcz Z - jcz Z0) (jsz Z - jsz Z0) := by
  intro n
  induction n with
  | zero => intro v0 v1 v3 Z I L _ _ _ _ _ h; exact h.elim
  | succ n ih =>
    intro v0 v1 v3 Z I L hZ hx hc hb kv0 h
    have h : ((v1 ≤ v3 → (∀ I38 : jI, I38 = jpI I v0 7 ((I v0 7) + (1 : Int32)) → (∀ I39 : jI, I39 = jpI I38 v0 52 (0 : Int32) → (∃ m280 : Nat, f_X12_stairs_L280 B  Q m280 v0 v1 (0 : Int32) Z I39 L)))) ∧ (¬ (v1 ≤ v3) → (∀ b41 : Nat, jr Z v0 1 = some b41 → (∀ b42 : Nat, jr Z v0 28 = some b42 → (vp_in ((5 : Int32) * v3) 120 ∧ (vp_in v3 24 ∧ (∀ I45 : jI, I45 = jpI I b41 v3.toNatClampNeg (I b42 ((5 : Int32) * v3).toNatClampNeg) → (∀ b46 : Nat, jr Z v0 2 = some b46 → (∀ b47 : Nat, jr Z v0 28 = some b47 → (vp_in (((5 : Int32) * v3) + (1 : Int32)) 120 ∧ (vp_in v3 24 ∧ (∀ I50 : jI, I50 = jpI I45 b46 v3.toNatClampNeg (I45 b47 (((5 : Int32) * v3) + (1 : Int32)).toNatClampNeg) → (∀ b51 : Nat, jr Z v0 3 = some b51 → (∀ b52 : Nat, jr Z v0 28 = some b52 → (vp_in (((5 : Int32) * v3) + (2 : Int32)) 120 ∧ (vp_in v3 24 ∧ (∀ I55 : jI, I55 = jpI I50 b51 v3.toNatClampNeg (I50 b52 (((5 : Int32) * v3) + (2 : Int32)).toNatClampNeg) → (∃ m185 : Nat, f_X12_stairs_L185 B (f_X12_stairs_L131 B Q n) Q m185 v0 v1 v3 (0 : Int32) Z I55 L)))))))))))))))))) := h
    obtain ⟨K131, eK131⟩ : ∃ K : Nat → Int32 → Int32 → jZ → jI → jL → Prop, K = f_X12_stairs_L131 B  Q n := ⟨_, rfl⟩
    have hK131 := ih
    clear eK131 K131
    generalize f_X12_stairs_L131 B  Q n = K131 at hK131 h
    refine j_iload_n E dX12_stairs_131 2 rfl ?_
    refine j_iload_n E dX12_stairs_132 1 rfl ?_
    refine j_icmp_ge E 263 dX12_stairs_133 (by decide) (fun c37 => ?_) (fun c37 => ?_)
    · have h := h.1 c37
      refine j_aload_n E dX12_stairs_263 0 rfl ?_
      refine j_dup E dX12_stairs_264 rfl ?_
      refine j_geti E 12 7 rfl rfl (by decide) (by decide) (iw iT_12) rfl rfl (tw W_739) kv0 dX12_stairs_265 ?_
      refine j_iconst E (v := 1) dX12_stairs_268 (by decide) ?_
      refine j_iadd E dX12_stairs_269 ?_
      refine j_puti E 12 7 rfl rfl (by decide) (by decide) (iw iT_12) tyX12_ok nmX12 rfl rfl (tw W_739) rfl rfl rfl kv0 dX12_stairs_270 ?_
      refine j_nmI (fun I38 eI38 => ?_)
      have h := h I38 eI38
      refine j_aload_n E dX12_stairs_273 0 rfl ?_
      refine j_iconst E (v := 0) dX12_stairs_274 (by decide) ?_
      refine j_puti E 12 52 rfl rfl (by decide) (by decide) (iw iT_12) tyX12_ok nmX12 rfl rfl (tw W_740) rfl rfl rfl kv0 dX12_stairs_275 ?_
      refine j_nmI (fun I39 eI39 => ?_)
      have h := h I39 eI39
      refine j_iconst E (v := 0) dX12_stairs_278 (by decide) ?_
      refine j_istore_n E 3 [(3, .int (0 : Int32)), (0, .ref v0), (1, .int v1)] dX12_stairs_279 rfl (by decide) rfl ?_
      obtain ⟨n40, h⟩ := h
      refine j_sub [1, 2, 0] rfl ?_
      exact m_X12_stairs_L280 E EU  n40 v0 v1 (0 : Int32) Z I39 L hZ hx hc hb kv0 h
    · have h := h.2 c37
      refine j_aload_n E dX12_stairs_136 0 rfl ?_
      obtain ⟨b41, eb41, kb41, lb41⟩ := sh_f hZ kv0 (j := 1) (k := 14) (m := 24) rfl
      have h := h b41 eb41
      refine j_getr E 12 1 rfl rfl (by decide) (by decide) (iw iT_12) rfl rfl (tw W_741) kv0 eb41 dX12_stairs_137 ?_
      refine j_iload_n E dX12_stairs_140 2 rfl ?_
      refine j_aload_n E dX12_stairs_141 0 rfl ?_
      obtain ⟨b42, eb42, kb42, lb42⟩ := sh_f hZ kv0 (j := 28) (k := 14) (m := 120) rfl
      have h := h b42 eb42
      refine j_getr E 12 28 rfl rfl (by decide) (by decide) (iw iT_12) rfl rfl (tw W_723) kv0 eb42 dX12_stairs_142 ?_
      refine j_iconst E (v := 5) dX12_stairs_145 (by decide) ?_
      refine j_iload_n E dX12_stairs_146 2 rfl ?_
      refine j_imul E dX12_stairs_147 ?_
      obtain ⟨o43, h⟩ := h
      refine j_iald E kb42 (by rw [lb42]; exact o43) dX12_stairs_148 ?_
      obtain ⟨o44, h⟩ := h
      refine j_iast E kb41 (by rw [lb41]; exact o44) dX12_stairs_149 ?_
      refine j_nmI (fun I45 eI45 => ?_)
      have h := h I45 eI45
      refine j_aload_n E dX12_stairs_150 0 rfl ?_
      obtain ⟨b46, eb46, kb46, lb46⟩ := sh_f hZ kv0 (j := 2) (k := 14) (m := 24) rfl
      have h := h b46 eb46
      refine j_getr E 12 2 rfl rfl (by decide) (by decide) (iw iT_12) rfl rfl (tw W_742) kv0 eb46 dX12_stairs_151 ?_
      refine j_iload_n E dX12_stairs_154 2 rfl ?_
      refine j_aload_n E dX12_stairs_155 0 rfl ?_
      obtain ⟨b47, eb47, kb47, lb47⟩ := sh_f hZ kv0 (j := 28) (k := 14) (m := 120) rfl
      have h := h b47 eb47
      refine j_getr E 12 28 rfl rfl (by decide) (by decide) (iw iT_12) rfl rfl (tw W_723) kv0 eb47 dX12_stairs_156 ?_
      refine j_iconst E (v := 5) dX12_stairs_159 (by decide) ?_
      refine j_iload_n E dX12_stairs_160 2 rfl ?_
      refine j_imul E dX12_stairs_161 ?_
      refine j_iconst E (v := 1) dX12_stairs_162 (by decide) ?_
      refine j_iadd E dX12_stairs_163 ?_
      obtain ⟨o48, h⟩ := h
      refine j_iald E kb47 (by rw [lb47]; exact o48) dX12_stairs_164 ?_
      obtain ⟨o49, h⟩ := h
      refine j_iast E kb46 (by rw [lb46]; exact o49) dX12_stairs_165 ?_
      refine j_nmI (fun I50 eI50 => ?_)
      have h := h I50 eI50
      refine j_aload_n E dX12_stairs_166 0 rfl ?_
      obtain ⟨b51, eb51, kb51, lb51⟩ := sh_f hZ kv0 (j := 3) (k := 14) (m := 24) rfl
      have h := h b51 eb51
      refine j_getr E 12 3 rfl rfl (by decide) (by decide) (iw iT_12) rfl rfl (tw W_743) kv0 eb51 dX12_stairs_167 ?_
      refine j_iload_n E dX12_stairs_170 2 rfl ?_
      refine j_aload_n E dX12_stairs_171 0 rfl ?_
      obtain ⟨b52, eb52, kb52, lb52⟩ := sh_f hZ kv0 (j := 28) (k := 14) (m := 120) rfl
      have h := h b52 eb52
      refine j_getr E 12 28 rfl rfl (by decide) (by decide) (iw iT_12) rfl rfl (tw W_723) kv0 eb52 dX12_stairs_172 ?_
      refine j_iconst E (v := 5) dX12_stairs_175 (by decide) ?_
      refine j_iload_n E dX12_stairs_176 2 rfl ?_
      refine j_imul E dX12_stairs_177 ?_
      refine j_iconst E (v := 2) dX12_stairs_178 (by decide) ?_
      refine j_iadd E dX12_stairs_179 ?_
      obtain ⟨o53, h⟩ := h
      refine j_iald E kb52 (by rw [lb52]; exact o53) dX12_stairs_180 ?_
      obtain ⟨o54, h⟩ := h
      refine j_iast E kb51 (by rw [lb51]; exact o54) dX12_stairs_181 ?_
      refine j_nmI (fun I55 eI55 => ?_)
      have h := h I55 eI55
      refine j_iconst E (v := 0) dX12_stairs_182 (by decide) ?_
      refine j_istore E 4 [(4, .int (0 : Int32)), (0, .ref v0), (1, .int v1), (3, .int v3)] dX12_stairs_183 (by decide) rfl ?_
      obtain ⟨n56, h⟩ := h
      refine j_sub [1, 2, 3, 0] rfl ?_
      exact m_X12_stairs_L185 E EU K131 hK131 n56 v0 v1 v3 (0 : Int32) Z I55 L hZ hx hc hb kv0 h
set_option maxRecDepth 100000 in
def f_X12_stairs_b102 (B : Nat × Nat)  (Q : Int32 → jZ → jI → jL → Prop) (v0 : Nat) (v1 : Int32) (Z : jZ) (I : jI) (L : jL) : Prop := (f_X12_fine v0 Z I L (fun r63 I59 L60 => ((¬ r63 = 0 → (((2 : Int32) ≤ v1 → (∀ I66 : jI, I66 = jpI I59 v0 0 v1 → (∃ m131 : Nat, f_X12_stairs_L131 B  Q m131 v0 v1 (0 : Int32) Z I66 L60))) ∧ (¬ ((2 : Int32) ≤ v1) → Q (-100 : Int32) Z I59 L60))) ∧ (r63 = 0 → Q ((-1 : Int32) - (I59 v0 27)) Z I59 L60))))
set_option maxHeartbeats 4000000 in
set_option maxRecDepth 100000 in
theorem m_X12_stairs_b102 {G : jG} {B : Nat × Nat} {Z0 : jZ} {Q : Int32 → jZ → jI → jL → Prop} (E : jE G cX12_stairs RX12 w_X12_stairs 5 (some .int) (jrm B 4 95 Z0) jRF) (EU : jEU G B Z0 (urtI B Z0 Q))  (v0 : Nat) (v1 : Int32) (Z : jZ) (I : jI) (L : jL) (hZ : SH Z) (hx : jext Z0 Z) (hc : jle Z0 Z) (hb : jin B Z) (kv0 : jk Z v0 12) (h : f_X12_stairs_b102 B  Q v0 v1 Z I L) : jJ G 5 102 [(0, .ref v0), (1, .int v1)] [] Z I L (jcz Z - jcz Z0) (jsz Z - jsz Z0) := by
  refine j_aload_n E dX12_stairs_102 0 rfl ?_
  refine j_callV E [] [] (c_X12_fine (gL G) (gD G) (gY G) v0 Z I L _ hZ kv0 h) (gwV W_708 W_709 W_710 W_695 W_707) rfl ⟨rfl, fy_X12_fine⟩ ⟨Nat.le_of_ble_eq_true rfl, Nat.le_of_ble_eq_true rfl⟩ (c := 12) rfl (by decide) kv0 rfl rfl (Nat.le_of_ble_eq_true rfl) (ju_kn hb) dX12_stairs_103 (fun v57 Z58 I59 L60 q61 => ?_)
  obtain ⟨rfl, r63, rfl, zr63, h⟩ := q61
  show jJ G 5 106 [(0, .ref v0), (1, .int v1)] [.int r63] Z I59 L60 (jcz Z - jcz Z0) (jsz Z - jsz Z0)
  refine j_if_ne E 116 dX12_stairs_106 (by decide) (fun c64 => ?_) (fun c64 => ?_)
  · have h := h.1 c64
    refine j_iload_n E dX12_stairs_116 1 rfl ?_
    refine j_iconst E (v := 2) dX12_stairs_117 (by decide) ?_
    refine j_icmp_ge E 124 dX12_stairs_118 (by decide) (fun c65 => ?_) (fun c65 => ?_)
    · have h := h.1 c65
      refine j_aload_n E dX12_stairs_124 0 rfl ?_
      refine j_iload_n E dX12_stairs_125 1 rfl ?_
      refine j_puti E 12 0 rfl rfl (by decide) (by decide) (iw iT_12) tyX12_ok nmX12 rfl rfl (tw W_693) rfl rfl rfl kv0 dX12_stairs_126 ?_
      refine j_nmI (fun I66 eI66 => ?_)
      have h := h I66 eI66
      refine j_iconst E (v := 0) dX12_stairs_129 (by decide) ?_
      refine j_istore_n E 3 [(3, .int (0 : Int32)), (0, .ref v0), (1, .int v1)] dX12_stairs_130 rfl (by decide) rfl ?_
      obtain ⟨n67, h⟩ := h
      refine j_sub [1, 2, 0] rfl ?_
      exact m_X12_stairs_L131 E EU  n67 v0 v1 (0 : Int32) Z I66 L60 hZ hx hc hb kv0 h
    · have h := h.2 c65
      refine j_bipush E (v := -100) dX12_stairs_121 (by decide) ?_
      exact ju_ireturn E EU hc hb ⟨hx, hZ, hb, _, rfl, h⟩ dX12_stairs_123
  · have h := h.2 c64
    refine j_iconst E (v := -1) dX12_stairs_109 (by decide) ?_
    refine j_aload_n E dX12_stairs_110 0 rfl ?_
    refine j_geti E 12 27 rfl rfl (by decide) (by decide) (iw iT_12) rfl rfl (tw W_706) kv0 dX12_stairs_111 ?_
    refine j_isub E dX12_stairs_114 ?_
    exact ju_ireturn E EU hc hb ⟨hx, hZ, hb, _, rfl, h⟩ dX12_stairs_115
set_option maxRecDepth 100000 in
def f_X12_stairs_b83 (B : Nat × Nat)  (Q : Int32 → jZ → jI → jL → Prop) (v0 : Nat) (v1 : Int32) (Z : jZ) (I : jI) (L : jL) : Prop := (((I v0 24) ≤ (I v0 26) → f_X12_stairs_b102 B  Q v0 v1 Z I L) ∧ (¬ ((I v0 24) ≤ (I v0 26)) → (f_X12_fault v0 (I v0 26) Z I L (fun I71 L72 => f_X12_stairs_b102 B  Q v0 v1 Z I71 L72))))
set_option maxHeartbeats 4000000 in
set_option maxRecDepth 100000 in
theorem m_X12_stairs_b83 {G : jG} {B : Nat × Nat} {Z0 : jZ} {Q : Int32 → jZ → jI → jL → Prop} (E : jE G cX12_stairs RX12 w_X12_stairs 5 (some .int) (jrm B 4 95 Z0) jRF) (EU : jEU G B Z0 (urtI B Z0 Q))  (v0 : Nat) (v1 : Int32) (Z : jZ) (I : jI) (L : jL) (hZ : SH Z) (hx : jext Z0 Z) (hc : jle Z0 Z) (hb : jin B Z) (kv0 : jk Z v0 12) (h : f_X12_stairs_b83 B  Q v0 v1 Z I L) : jJ G 5 83 [(0, .ref v0), (1, .int v1)] [] Z I L (jcz Z - jcz Z0) (jsz Z - jsz Z0) := by
  refine j_aload_n E dX12_stairs_83 0 rfl ?_
  refine j_geti E 12 26 rfl rfl (by decide) (by decide) (iw iT_12) rfl rfl (tw W_705) kv0 dX12_stairs_84 ?_
  refine j_aload_n E dX12_stairs_87 0 rfl ?_
  refine j_geti E 12 24 rfl rfl (by decide) (by decide) (iw iT_12) rfl rfl (tw W_703) kv0 dX12_stairs_88 ?_
  refine j_icmp_ge E 102 dX12_stairs_91 (by decide) (fun c68 => ?_) (fun c68 => ?_)
  · have h := h.1 c68
    refine j_sub [0, 1] rfl ?_
    exact m_X12_stairs_b102 E EU  v0 v1 Z I L hZ hx hc hb kv0 h
  · have h := h.2 c68
    refine j_aload_n E dX12_stairs_94 0 rfl ?_
    refine j_aload_n E dX12_stairs_95 0 rfl ?_
    refine j_geti E 12 26 rfl rfl (by decide) (by decide) (iw iT_12) rfl rfl (tw W_705) kv0 dX12_stairs_96 ?_
    refine j_callV E [.int (I v0 26)] [] (c_X12_fault (gL G) (gD G) (gY G) v0 (I v0 26) Z I L _ hZ kv0 h) (gwV W_720 W_721 W_722 W_695 W_719) rfl ⟨rfl, fy_X12_fault⟩ ⟨Nat.le_of_ble_eq_true rfl, Nat.le_of_ble_eq_true rfl⟩ (c := 12) rfl (by decide) kv0 rfl rfl (Nat.le_of_ble_eq_true rfl) (ju_kn hb) dX12_stairs_99 (fun v69 Z70 I71 L72 q73 => ?_)
    obtain ⟨rfl, rfl, h⟩ := q73
    show jJ G 5 102 [(0, .ref v0), (1, .int v1)] [] Z I71 L72 (jcz Z - jcz Z0) (jsz Z - jsz Z0)
    refine j_sub [0, 1] rfl ?_
    exact m_X12_stairs_b102 E EU  v0 v1 Z I71 L72 hZ hx hc hb kv0 h
set_option maxRecDepth 100000 in
def f_X12_stairs_L39 (B : Nat × Nat)  (Q : Int32 → jZ → jI → jL → Prop) : Nat → Nat → Int32 → Int32 → jZ → jI → jL → Prop
  | 0 => fun _ _ _ _ _ _ => False
  | n + 1 => fun v0 v1 v2 Z I L => ((v2 = 0 → f_X12_stairs_b83 B  Q v0 v1 Z I L) ∧ (¬ (v2 = 0) → (f_X12_fine v0 Z I L (fun r82 I78 L79 => ((r82 = 0 → f_X12_stairs_b83 B  Q v0 v1 Z I78 L79) ∧ (¬ (r82 = 0) → ((¬ v1 = (24 : Int32) → (f_X12_readLine v0 v1 Z I78 L79 (fun r91 I87 L88 => (f_X12_passes v0 (59 : Int32) Z I87 L88 (fun r98 I94 L95 => (f_X12_stairs_L39 B Q n) v0 r91 r98 Z I94 L95))))) ∧ (v1 = (24 : Int32) → (f_X12_fault v0 (I78 v0 26) Z I78 L79 (fun I101 L102 => f_X12_stairs_b83 B  Q v0 v1 Z I101 L102))))))))))
set_option maxHeartbeats 4000000 in
set_option maxRecDepth 100000 in
theorem m_X12_stairs_L39 {G : jG} {Z0 : jZ} {B : Nat × Nat} {Q : Int32 → jZ → jI → jL → Prop} (E : jE G cX12_stairs RX12 w_X12_stairs 5 (some .int) (jrm B 4 95 Z0) jRF) (EU : jEU G B Z0 (urtI B Z0 Q))  : ∀ (n : Nat) (v0 : Nat) (v1 : Int32) (v2 : Int32) (Z : jZ) (I : jI) (L : jL), SH Z → jext Z0 Z → jle Z0 Z → jin B Z → jk Z v0 12 → f_X12_stairs_L39 B  Q n v0 v1 v2 Z I L → jJ G 5 39 [(0, .ref v0), (1, .int v1), (2, .int v2)] [] Z I L (jcz Z - jcz Z0) (jsz Z - jsz Z0) := by
  intro n
  induction n with
  | zero => intro v0 v1 v2 Z I L _ _ _ _ _ h; exact h.elim
  | succ n ih =>
    intro v0 v1 v2 Z I L hZ hx hc hb kv0 h
    have h : ((v2 = 0 → f_X12_stairs_b83 B  Q v0 v1 Z I L) ∧ (¬ (v2 = 0) → (f_X12_fine v0 Z I L (fun r82 I78 L79 => ((r82 = 0 → f_X12_stairs_b83 B  Q v0 v1 Z I78 L79) ∧ (¬ (r82 = 0) → ((¬ v1 = (24 : Int32) → (f_X12_readLine v0 v1 Z I78 L79 (fun r91 I87 L88 => (f_X12_passes v0 (59 : Int32) Z I87 L88 (fun r98 I94 L95 => (f_X12_stairs_L39 B Q n) v0 r91 r98 Z I94 L95))))) ∧ (v1 = (24 : Int32) → (f_X12_fault v0 (I78 v0 26) Z I78 L79 (fun I101 L102 => f_X12_stairs_b83 B  Q v0 v1 Z I101 L102)))))))))) := h
    obtain ⟨K39, eK39⟩ : ∃ K : Nat → Int32 → Int32 → jZ → jI → jL → Prop, K = f_X12_stairs_L39 B  Q n := ⟨_, rfl⟩
    have hK39 := ih
    clear eK39 K39
    generalize f_X12_stairs_L39 B  Q n = K39 at hK39 h
    refine j_iload_n E dX12_stairs_39 2 rfl ?_
    refine j_if_eq E 83 dX12_stairs_40 (by decide) (fun c75 => ?_) (fun c75 => ?_)
    · have h := h.1 c75
      refine j_sub [0, 1] rfl ?_
      exact m_X12_stairs_b83 E EU  v0 v1 Z I L hZ hx hc hb kv0 h
    · have h := h.2 c75
      refine j_aload_n E dX12_stairs_43 0 rfl ?_
      refine j_callV E [] [] (c_X12_fine (gL G) (gD G) (gY G) v0 Z I L _ hZ kv0 h) (gwV W_708 W_709 W_710 W_695 W_707) rfl ⟨rfl, fy_X12_fine⟩ ⟨Nat.le_of_ble_eq_true rfl, Nat.le_of_ble_eq_true rfl⟩ (c := 12) rfl (by decide) kv0 rfl rfl (Nat.le_of_ble_eq_true rfl) (ju_kn hb) dX12_stairs_44 (fun v76 Z77 I78 L79 q80 => ?_)
      obtain ⟨rfl, r82, rfl, zr82, h⟩ := q80
      show jJ G 5 47 [(0, .ref v0), (1, .int v1), (2, .int v2)] [.int r82] Z I78 L79 (jcz Z - jcz Z0) (jsz Z - jsz Z0)
      refine j_if_eq E 83 dX12_stairs_47 (by decide) (fun c83 => ?_) (fun c83 => ?_)
      · have h := h.1 c83
        refine j_sub [0, 1] rfl ?_
        exact m_X12_stairs_b83 E EU  v0 v1 Z I78 L79 hZ hx hc hb kv0 h
      · have h := h.2 c83
        refine j_iload_n E dX12_stairs_50 1 rfl ?_
        refine j_bipush E (v := 24) dX12_stairs_51 (by decide) ?_
        refine j_icmp_ne E 67 dX12_stairs_53 (by decide) (fun c84 => ?_) (fun c84 => ?_)
        · have h := h.1 c84
          refine j_aload_n E dX12_stairs_67 0 rfl ?_
          refine j_iload_n E dX12_stairs_68 1 rfl ?_
          refine j_callV E [.int v1] [] (c_X12_readLine (gL G) (gD G) (gY G) v0 v1 Z I78 L79 _ hZ kv0 h) (gwV W_745 W_746 W_747 W_695 W_744) rfl ⟨rfl, fy_X12_readLine⟩ ⟨Nat.le_of_ble_eq_true rfl, Nat.le_of_ble_eq_true rfl⟩ (c := 12) rfl (by decide) kv0 rfl rfl (Nat.le_of_ble_eq_true rfl) (ju_kn hb) dX12_stairs_69 (fun v85 Z86 I87 L88 q89 => ?_)
          obtain ⟨rfl, r91, rfl, h⟩ := q89
          show jJ G 5 72 [(0, .ref v0), (1, .int v1), (2, .int v2)] [.int r91] Z I87 L88 (jcz Z - jcz Z0) (jsz Z - jsz Z0)
          refine j_istore_n E 1 [(1, .int r91), (0, .ref v0), (2, .int v2)] dX12_stairs_72 rfl (by decide) rfl ?_
          refine j_aload_n E dX12_stairs_73 1 rfl ?_
          refine j_bipush E (v := 59) dX12_stairs_74 (by decide) ?_
          refine j_callV E [.int (59 : Int32)] [] (c_X12_passes (gL G) (gD G) (gY G) v0 (59 : Int32) Z I87 L88 _ hZ kv0 h) (gwV W_716 W_717 W_718 W_695 W_715) rfl ⟨rfl, fy_X12_passes⟩ ⟨Nat.le_of_ble_eq_true rfl, Nat.le_of_ble_eq_true rfl⟩ (c := 12) rfl (by decide) kv0 rfl rfl (Nat.le_of_ble_eq_true rfl) (ju_kn hb) dX12_stairs_76 (fun v92 Z93 I94 L95 q96 => ?_)
          obtain ⟨rfl, r98, rfl, zr98, h⟩ := q96
          show jJ G 5 79 [(1, .int r91), (0, .ref v0), (2, .int v2)] [.int r98] Z I94 L95 (jcz Z - jcz Z0) (jsz Z - jsz Z0)
          refine j_istore_n E 2 [(2, .int r98), (1, .int r91), (0, .ref v0)] dX12_stairs_79 rfl (by decide) rfl ?_
          refine j_goto E 39 dX12_stairs_80 (by decide) ?_
          refine j_sub [2, 1, 0] rfl ?_
          exact hK39 v0 r91 r98 Z I94 L95 hZ hx hc hb kv0 h
        · have h := h.2 c84
          refine j_aload_n E dX12_stairs_56 0 rfl ?_
          refine j_aload_n E dX12_stairs_57 0 rfl ?_
          refine j_geti E 12 26 rfl rfl (by decide) (by decide) (iw iT_12) rfl rfl (tw W_705) kv0 dX12_stairs_58 ?_
          refine j_callV E [.int (I78 v0 26)] [] (c_X12_fault (gL G) (gD G) (gY G) v0 (I78 v0 26) Z I78 L79 _ hZ kv0 h) (gwV W_720 W_721 W_722 W_695 W_719) rfl ⟨rfl, fy_X12_fault⟩ ⟨Nat.le_of_ble_eq_true rfl, Nat.le_of_ble_eq_true rfl⟩ (c := 12) rfl (by decide) kv0 rfl rfl (Nat.le_of_ble_eq_true rfl) (ju_kn hb) dX12_stairs_61 (fun v99 Z100 I101 L102 q103 => ?_)
          obtain ⟨rfl, rfl, h⟩ := q103
          show jJ G 5 64 [(0, .ref v0), (1, .int v1), (2, .int v2)] [] Z I101 L102 (jcz Z - jcz Z0) (jsz Z - jsz Z0)
          refine j_goto E 83 dX12_stairs_64 (by decide) ?_
          refine j_sub [0, 1] rfl ?_
          exact m_X12_stairs_b83 E EU  v0 v1 Z I101 L102 hZ hx hc hb kv0 h
set_option maxRecDepth 100000 in
def f_X12_stairs_b38 (B : Nat × Nat)  (Q : Int32 → jZ → jI → jL → Prop) (v0 : Nat) (v1 : Int32) (s0 : Int32) (Z : jZ) (I : jI) (L : jL) : Prop := (∃ m39 : Nat, f_X12_stairs_L39 B  Q m39 v0 v1 s0 Z I L)
set_option maxHeartbeats 4000000 in
set_option maxRecDepth 100000 in
theorem m_X12_stairs_b38 {G : jG} {B : Nat × Nat} {Z0 : jZ} {Q : Int32 → jZ → jI → jL → Prop} (E : jE G cX12_stairs RX12 w_X12_stairs 5 (some .int) (jrm B 4 95 Z0) jRF) (EU : jEU G B Z0 (urtI B Z0 Q))  (v0 : Nat) (v1 : Int32) (s0 : Int32) (Z : jZ) (I : jI) (L : jL) (hZ : SH Z) (hx : jext Z0 Z) (hc : jle Z0 Z) (hb : jin B Z) (kv0 : jk Z v0 12) (h : f_X12_stairs_b38 B  Q v0 v1 s0 Z I L) : jJ G 5 38 [(0, .ref v0), (1, .int v1)] [.int s0] Z I L (jcz Z - jcz Z0) (jsz Z - jsz Z0) := by
  refine j_istore_n E 2 [(2, .int s0), (0, .ref v0), (1, .int v1)] dX12_stairs_38 rfl (by decide) rfl ?_
  obtain ⟨n105, h⟩ := h
  refine j_sub [1, 2, 0] rfl ?_
  exact m_X12_stairs_L39 E EU  n105 v0 v1 s0 Z I L hZ hx hc hb kv0 h
set_option maxRecDepth 100000 in
def f_X12_stairs (B : Nat × Nat) (v0 : Nat) (Z : jZ) (I : jI) (L : jL) (Q : Int32 → jZ → jI → jL → Prop) : Prop := (∀ I106 : jI, I106 = jpI I v0 22 (0 : Int32) → (∀ b107 : Nat, jr Z v0 18 = some b107 → (f_X12_begin B v0 b107 (I106 v0 19) (76 : Int32) Z I106 L (fun Z109 I110 L111 => (∀ I115 : jI, I115 = jpI I110 v0 19 (0 : Int32) → (((I115 v0 24) ≤ 0 → f_X12_stairs_b38 B  Q v0 (0 : Int32) (0 : Int32) Z109 I115 L111) ∧ (¬ ((I115 v0 24) ≤ 0) → f_X12_stairs_b38 B  Q v0 (0 : Int32) (1 : Int32) Z109 I115 L111)))))))
set_option maxHeartbeats 4000000 in
set_option maxRecDepth 100000 in
theorem c_X12_stairs (l : Launch) (D : va_G) (cy : jC) (B : Nat × Nat) (v0 : Nat) (Z : jZ) (I : jI) (L : jL) (Q : Int32 → jZ → jI → jL → Prop) (hZ : SH Z) (hb : jin B Z) (kv0 : jk Z v0 12) (h : f_X12_stairs B v0 Z I L Q) : jCtU l yX12_stairs w_X12_stairs B 4 95 D cy [.ref v0] Z I L (urtI B Z Q) := by
  refine jCtU_of (cc := cX12_stairs) (maxL := 5) (ret := (some .int)) (by decide +kernel) rfl (Nat.le_of_ble_eq_true rfl) ?_
  intro G eD eY eL E EU
  subst eD; subst eY; subst eL
  have E : jE G cX12_stairs RX12 w_X12_stairs 5 (some .int) (jrm B 4 95 Z) jRF := E
  have hx : jext Z Z := jext_rfl
  have hc : jle Z Z := jle_rfl
  show jJ G 5 0 [(0, .ref v0)] [] Z I L (jcz Z - jcz Z) (jsz Z - jsz Z)
  refine j_aload_n E dX12_stairs_0 0 rfl ?_
  refine j_iconst E (v := 0) dX12_stairs_1 (by decide) ?_
  refine j_puti E 12 22 rfl rfl (by decide) (by decide) (iw iT_12) tyX12_ok nmX12 rfl rfl (tw W_690) rfl rfl rfl kv0 dX12_stairs_2 ?_
  refine j_nmI (fun I106 eI106 => ?_)
  have h := h I106 eI106
  refine j_aload_n E dX12_stairs_5 0 rfl ?_
  refine j_aload_n E dX12_stairs_6 0 rfl ?_
  obtain ⟨b107, eb107, kb107, lb107⟩ := sh_f hZ kv0 (j := 18) (k := 13) (m := 80) rfl
  have h := h b107 eb107
  refine j_getr E 12 18 rfl rfl (by decide) (by decide) (iw iT_12) rfl rfl (tw W_701) kv0 eb107 dX12_stairs_7 ?_
  refine j_aload_n E dX12_stairs_10 0 rfl ?_
  refine j_geti E 12 19 rfl rfl (by decide) (by decide) (iw iT_12) rfl rfl (tw W_700) kv0 dX12_stairs_11 ?_
  refine j_bipush E (v := 76) dX12_stairs_14 (by decide) ?_
  refine ju_callV E [.ref b107, .int (I106 v0 19), .int (76 : Int32)] [] (c_X12_begin (gL G) (gD G) (gY G) B v0 b107 (I106 v0 19) (76 : Int32) Z I106 L _ hZ hb kv0 kb107 h) (gwV W_749 W_750 W_751 W_695 W_748) rfl ⟨rfl, fy_X12_begin⟩ ⟨Nat.le_of_ble_eq_true rfl, Nat.le_of_ble_eq_true rfl⟩ (c := 12) rfl (by decide) kv0 rfl rfl (Nat.le_of_ble_eq_true rfl) (ju_f hc hb) dX12_stairs_16 (fun v108 Z109 I110 L111 q112 j113 => ?_)
  refine ju_next hc j113 ?_
  have hc := jle_trans hc j113
  obtain ⟨yZ109, hZ109, hbZ109, rfl, h⟩ := q112
  have hZ := hZ109
  have hx : jext Z Z109 := jext_trans hx yZ109
  have hb := hbZ109
  have k114 := (yZ109 _ _ kv0).1
  show jJ G 5 19 [(0, .ref v0)] [] Z109 I110 L111 (jcz Z109 - jcz Z) (jsz Z109 - jsz Z)
  refine j_aload_n E dX12_stairs_19 0 rfl ?_
  refine j_iconst E (v := 0) dX12_stairs_20 (by decide) ?_
  refine j_puti E 12 19 rfl rfl (by decide) (by decide) (iw iT_12) tyX12_ok nmX12 rfl rfl (tw W_700) rfl rfl rfl k114 dX12_stairs_21 ?_
  refine j_nmI (fun I115 eI115 => ?_)
  have h := h I115 eI115
  refine j_iconst E (v := 0) dX12_stairs_24 (by decide) ?_
  refine j_istore_n E 1 [(1, .int (0 : Int32)), (0, .ref v0)] dX12_stairs_25 rfl (by decide) rfl ?_
  refine j_aload_n E dX12_stairs_26 1 rfl ?_
  refine j_geti E 12 24 rfl rfl (by decide) (by decide) (iw iT_12) rfl rfl (tw W_703) k114 dX12_stairs_27 ?_
  refine j_if_le E 37 dX12_stairs_30 (by decide) (fun c116 => ?_) (fun c116 => ?_)
  · have h := h.1 c116
    refine j_iconst E (v := 0) dX12_stairs_37 (by decide) ?_
    refine j_sub [1, 0] rfl ?_
    exact m_X12_stairs_b38 E EU  v0 (0 : Int32) (0 : Int32) Z109 I115 L111 hZ hx hc hb k114 h
  · have h := h.2 c116
    refine j_iconst E (v := 1) dX12_stairs_33 (by decide) ?_
    refine j_goto E 38 dX12_stairs_34 (by decide) ?_
    refine j_sub [1, 0] rfl ?_
    exact m_X12_stairs_b38 E EU  v0 (0 : Int32) (1 : Int32) Z109 I115 L111 hZ hx hc hb k114 h
set_option maxRecDepth 100000 in
def f_X12_letter (v0 : Nat) (v1 : Int32) (Z : jZ) (I : jI) (L : jL) (Q : Int32 → jI → jL → Prop) : Prop := ((v1 = 97 → (∀ b2 : Nat, jr Z v0 3 = some b2 → (vp_in (I v0 31) 24 ∧ Q (I b2 (I v0 31).toNatClampNeg) I L))) ∧ (¬ v1 = 97 → ((v1 = 108 → Q (I v0 33) I L) ∧ (¬ v1 = 108 → ((v1 = 114 → (∀ b6 : Nat, jr Z v0 1 = some b6 → (vp_in (I v0 31) 24 ∧ Q (I b6 (I v0 31).toNatClampNeg) I L))) ∧ (¬ v1 = 114 → ((v1 = 115 → (∀ b9 : Nat, jr Z v0 2 = some b9 → (vp_in (I v0 31) 24 ∧ Q (I b9 (I v0 31).toNatClampNeg) I L))) ∧ (¬ v1 = 115 → ((v1 = 119 → (∀ b12 : Nat, jr Z v0 4 = some b12 → (vp_in (I v0 31) 24 ∧ (((I b12 (I v0 31).toNatClampNeg) = 0 → Q (0 : Int32) I L) ∧ (¬ ((I b12 (I v0 31).toNatClampNeg) = 0) → Q (1 : Int32) I L))))) ∧ (¬ v1 = 119 → ((v1 = 120 → (((I v0 32) < 0 → Q (0 : Int32) I L) ∧ (¬ ((I v0 32) < 0) → (∀ b17 : Nat, jr Z v0 6 = some b17 → (f_X12_mainOf v0 (I v0 32) Z I L (fun r24 I20 L21 => (f_X12_mainOf v0 (I20 v0 31) Z I20 L21 (fun r31 I27 L28 => (vp_in (((8 : Int32) * r24) + r31) 64 ∧ (((I27 b17 (((8 : Int32) * r24) + r31).toNatClampNeg) = 0 → Q (0 : Int32) I27 L28) ∧ (¬ ((I27 b17 (((8 : Int32) * r24) + r31).toNatClampNeg) = 0) → Q (1 : Int32) I27 L28))))))))))) ∧ (¬ v1 = 120 → Q (I v0 34) I L))))))))))))
set_option maxHeartbeats 4000000 in
set_option maxRecDepth 100000 in
theorem c_X12_letter (l : Launch) (D : va_G) (cy : jC) (v0 : Nat) (v1 : Int32) (Z : jZ) (I : jI) (L : jL) (Q : Int32 → jI → jL → Prop) (hZ : SH Z) (kv0 : jk Z v0 12) (h : f_X12_letter v0 v1 Z I L Q) : jCt l yX12_letter w_X12_letter { frames := 1, cells := 0, slots := 0, locals := 23 } D cy [.ref v0, .int v1] Z I L (rtI Z Q) := by
  refine jCt_of (cc := cX12_letter) (maxL := 2) (ret := (some .int)) (by decide +kernel) rfl (Nat.le_of_ble_eq_true rfl) ?_
  intro G eD eY eL E
  subst eD; subst eY; subst eL
  have E : jE G cX12_letter RX12 w_X12_letter 2 (some .int) { frames := 1, cells := 0, slots := 0, locals := 23 } (rtI Z Q) := E
  show jJ G 2 0 [(0, .ref v0), (1, .int v1)] [] Z I L 0 0
  refine j_iload_n E dX12_letter_0 1 rfl ?_
  by_cases c1 : v1 = 97
  · have h := h.1 c1
    refine j_lookup E (59) 60 dX12_letter_1 (by decide) (by rw [c1]; rfl) (by decide) ?_
    refine j_aload_n E dX12_letter_60 0 rfl ?_
    obtain ⟨b2, eb2, kb2, lb2⟩ := sh_f hZ kv0 (j := 3) (k := 14) (m := 24) rfl
    have h := h b2 eb2
    refine j_getr E 12 3 rfl rfl (by decide) (by decide) (iw iT_12) rfl rfl (tw W_743) kv0 eb2 dX12_letter_61 ?_
    refine j_aload_n E dX12_letter_64 0 rfl ?_
    refine j_geti E 12 31 rfl rfl (by decide) (by decide) (iw iT_12) rfl rfl (tw W_752) kv0 dX12_letter_65 ?_
    obtain ⟨o3, h⟩ := h
    refine j_iald E kb2 (by rw [lb2]; exact o3) dX12_letter_68 ?_
    exact j_ireturn E ⟨rfl, _, rfl, h⟩ (Nat.zero_le _) (Nat.zero_le _) dX12_letter_69
  · have h := h.2 c1
    by_cases c4 : v1 = 108
    · have h := h.1 c4
      refine j_lookup E (148) 149 dX12_letter_1 (by decide) (by rw [c4]; rfl) (by decide) ?_
      refine j_aload_n E dX12_letter_149 0 rfl ?_
      refine j_geti E 12 33 rfl rfl (by decide) (by decide) (iw iT_12) rfl rfl (tw W_753) kv0 dX12_letter_150 ?_
      exact j_ireturn E ⟨rfl, _, rfl, h⟩ (Nat.zero_le _) (Nat.zero_le _) dX12_letter_153
    · have h := h.2 c4
      by_cases c5 : v1 = 114
      · have h := h.1 c5
        refine j_lookup E (69) 70 dX12_letter_1 (by decide) (by rw [c5]; rfl) (by decide) ?_
        refine j_aload_n E dX12_letter_70 0 rfl ?_
        obtain ⟨b6, eb6, kb6, lb6⟩ := sh_f hZ kv0 (j := 1) (k := 14) (m := 24) rfl
        have h := h b6 eb6
        refine j_getr E 12 1 rfl rfl (by decide) (by decide) (iw iT_12) rfl rfl (tw W_741) kv0 eb6 dX12_letter_71 ?_
        refine j_aload_n E dX12_letter_74 0 rfl ?_
        refine j_geti E 12 31 rfl rfl (by decide) (by decide) (iw iT_12) rfl rfl (tw W_752) kv0 dX12_letter_75 ?_
        obtain ⟨o7, h⟩ := h
        refine j_iald E kb6 (by rw [lb6]; exact o7) dX12_letter_78 ?_
        exact j_ireturn E ⟨rfl, _, rfl, h⟩ (Nat.zero_le _) (Nat.zero_le _) dX12_letter_79
      · have h := h.2 c5
        by_cases c8 : v1 = 115
        · have h := h.1 c8
          refine j_lookup E (79) 80 dX12_letter_1 (by decide) (by rw [c8]; rfl) (by decide) ?_
          refine j_aload_n E dX12_letter_80 0 rfl ?_
          obtain ⟨b9, eb9, kb9, lb9⟩ := sh_f hZ kv0 (j := 2) (k := 14) (m := 24) rfl
          have h := h b9 eb9
          refine j_getr E 12 2 rfl rfl (by decide) (by decide) (iw iT_12) rfl rfl (tw W_742) kv0 eb9 dX12_letter_81 ?_
          refine j_aload_n E dX12_letter_84 0 rfl ?_
          refine j_geti E 12 31 rfl rfl (by decide) (by decide) (iw iT_12) rfl rfl (tw W_752) kv0 dX12_letter_85 ?_
          obtain ⟨o10, h⟩ := h
          refine j_iald E kb9 (by rw [lb9]; exact o10) dX12_letter_88 ?_
          exact j_ireturn E ⟨rfl, _, rfl, h⟩ (Nat.zero_le _) (Nat.zero_le _) dX12_letter_89
        · have h := h.2 c8
          by_cases c11 : v1 = 119
          · have h := h.1 c11
            refine j_lookup E (89) 90 dX12_letter_1 (by decide) (by rw [c11]; rfl) (by decide) ?_
            refine j_aload_n E dX12_letter_90 0 rfl ?_
            obtain ⟨b12, eb12, kb12, lb12⟩ := sh_f hZ kv0 (j := 4) (k := 16) (m := 24) rfl
            have h := h b12 eb12
            refine j_getr E 12 4 rfl rfl (by decide) (by decide) (iw iT_12) rfl rfl (tw W_738) kv0 eb12 dX12_letter_91 ?_
            refine j_aload_n E dX12_letter_94 0 rfl ?_
            refine j_geti E 12 31 rfl rfl (by decide) (by decide) (iw iT_12) rfl rfl (tw W_752) kv0 dX12_letter_95 ?_
            obtain ⟨o13, h⟩ := h
            refine j_zald E kb12 (by rw [lb12]; exact o13) dX12_letter_98 ?_
            refine j_if_eq E 106 dX12_letter_99 (by decide) (fun c14 => ?_) (fun c14 => ?_)
            · have h := h.1 c14
              refine j_iconst E (v := 0) dX12_letter_106 (by decide) ?_
              exact j_ireturn E ⟨rfl, _, rfl, h⟩ (Nat.zero_le _) (Nat.zero_le _) dX12_letter_107
            · have h := h.2 c14
              refine j_iconst E (v := 1) dX12_letter_102 (by decide) ?_
              refine j_goto E 107 dX12_letter_103 (by decide) ?_
              exact j_ireturn E ⟨rfl, _, rfl, h⟩ (Nat.zero_le _) (Nat.zero_le _) dX12_letter_107
          · have h := h.2 c11
            by_cases c15 : v1 = 120
            · have h := h.1 c15
              refine j_lookup E (107) 108 dX12_letter_1 (by decide) (by rw [c15]; rfl) (by decide) ?_
              refine j_aload_n E dX12_letter_108 0 rfl ?_
              refine j_geti E 12 32 rfl rfl (by decide) (by decide) (iw iT_12) rfl rfl (tw W_754) kv0 dX12_letter_109 ?_
              refine j_if_lt E 147 dX12_letter_112 (by decide) (fun c16 => ?_) (fun c16 => ?_)
              · have h := h.1 c16
                refine j_iconst E (v := 0) dX12_letter_147 (by decide) ?_
                exact j_ireturn E ⟨rfl, _, rfl, h⟩ (Nat.zero_le _) (Nat.zero_le _) dX12_letter_148
              · have h := h.2 c16
                refine j_aload_n E dX12_letter_115 0 rfl ?_
                obtain ⟨b17, eb17, kb17, lb17⟩ := sh_f hZ kv0 (j := 6) (k := 16) (m := 64) rfl
                have h := h b17 eb17
                refine j_getr E 12 6 rfl rfl (by decide) (by decide) (iw iT_12) rfl rfl (tw W_755) kv0 eb17 dX12_letter_116 ?_
                refine j_bipush E (v := 8) dX12_letter_119 (by decide) ?_
                refine j_aload_n E dX12_letter_121 0 rfl ?_
                refine j_aload_n E dX12_letter_122 0 rfl ?_
                refine j_geti E 12 32 rfl rfl (by decide) (by decide) (iw iT_12) rfl rfl (tw W_754) kv0 dX12_letter_123 ?_
                refine j_callV E [.int (I v0 32)] [.int (8 : Int32), .ref b17] (c_X12_mainOf (gL G) (gD G) (gY G) v0 (I v0 32) Z I L _ hZ kv0 h) (gwV W_757 W_758 W_759 W_695 W_756) rfl ⟨rfl, fy_X12_mainOf⟩ ⟨by decide, by decide⟩ (c := 12) rfl (by decide) kv0 rfl rfl (Nat.le_of_ble_eq_true rfl) ⟨Nat.zero_le _, Nat.zero_le _⟩ dX12_letter_126 (fun v18 Z19 I20 L21 q22 => ?_)
                obtain ⟨rfl, r24, rfl, h⟩ := q22
                show jJ G 2 129 [(0, .ref v0), (1, .int v1)] [.int r24, .int (8 : Int32), .ref b17] Z I20 L21 0 0
                refine j_imul E dX12_letter_129 ?_
                refine j_aload_n E dX12_letter_130 0 rfl ?_
                refine j_aload_n E dX12_letter_131 0 rfl ?_
                refine j_geti E 12 31 rfl rfl (by decide) (by decide) (iw iT_12) rfl rfl (tw W_752) kv0 dX12_letter_132 ?_
                refine j_callV E [.int (I20 v0 31)] [.int ((8 : Int32) * r24), .ref b17] (c_X12_mainOf (gL G) (gD G) (gY G) v0 (I20 v0 31) Z I20 L21 _ hZ kv0 h) (gwV W_757 W_758 W_759 W_695 W_756) rfl ⟨rfl, fy_X12_mainOf⟩ ⟨by decide, by decide⟩ (c := 12) rfl (by decide) kv0 rfl rfl (Nat.le_of_ble_eq_true rfl) ⟨Nat.zero_le _, Nat.zero_le _⟩ dX12_letter_135 (fun v25 Z26 I27 L28 q29 => ?_)
                obtain ⟨rfl, r31, rfl, h⟩ := q29
                show jJ G 2 138 [(0, .ref v0), (1, .int v1)] [.int r31, .int ((8 : Int32) * r24), .ref b17] Z I27 L28 0 0
                refine j_iadd E dX12_letter_138 ?_
                obtain ⟨o32, h⟩ := h
                refine j_zald E kb17 (by rw [lb17]; exact o32) dX12_letter_139 ?_
                refine j_if_eq E 147 dX12_letter_140 (by decide) (fun c33 => ?_) (fun c33 => ?_)
                · have h := h.1 c33
                  refine j_iconst E (v := 0) dX12_letter_147 (by decide) ?_
                  exact j_ireturn E ⟨rfl, _, rfl, h⟩ (Nat.zero_le _) (Nat.zero_le _) dX12_letter_148
                · have h := h.2 c33
                  refine j_iconst E (v := 1) dX12_letter_143 (by decide) ?_
                  refine j_goto E 148 dX12_letter_144 (by decide) ?_
                  exact j_ireturn E ⟨rfl, _, rfl, h⟩ (Nat.zero_le _) (Nat.zero_le _) dX12_letter_148
            · have h := h.2 c15
              refine j_lookup E (153) 154 dX12_letter_1 (by decide) (by show Op.lookupswitch.offset [(97, 59), (108, 148), (114, 69), (115, 79), (119, 89), (120, 107)] 153 _ = _; rw [lv_osw c1 (show ((97 : Int32).toInt) = 97 from rfl), lv_osw c4 (show ((108 : Int32).toInt) = 108 from rfl), lv_osw c5 (show ((114 : Int32).toInt) = 114 from rfl), lv_osw c8 (show ((115 : Int32).toInt) = 115 from rfl), lv_osw c11 (show ((119 : Int32).toInt) = 119 from rfl), lv_osw c15 (show ((120 : Int32).toInt) = 120 from rfl)]; rfl) (by decide) ?_
              refine j_aload_n E dX12_letter_154 0 rfl ?_
              refine j_geti E 12 34 rfl rfl (by decide) (by decide) (iw iT_12) rfl rfl (tw W_760) kv0 dX12_letter_155 ?_
              exact j_ireturn E ⟨rfl, _, rfl, h⟩ (Nat.zero_le _) (Nat.zero_le _) dX12_letter_158
abbrev FTR12 : Type := Nat → Nat → Int32 → jZ → jI → jL → (Int32 → jI → jL → Prop) → Prop
abbrev rR12 (d : Nat) : Room := { frames := d + 2, cells := 0, slots := 0, locals := 24 * d + 66 }
def HFR12 (l : Launch) (D : va_G) (cy : jC) (d : Nat) (F : FTR12) : Prop := (∀ (v0 : Nat) (v1 : Int32) (Z : jZ) (I : jI) (L : jL) (Q : Int32 → jI → jL → Prop), SH Z → jk Z v0 12 → F 0 v0 v1 Z I L Q → jCt l yX12_held w_X12_held (rR12 d) D cy [.ref v0, .int v1] Z I L (rtI Z Q)) ∧ (∀ (v0 : Nat) (v1 : Int32) (Z : jZ) (I : jI) (L : jL) (Q : Int32 → jI → jL → Prop), SH Z → jk Z v0 12 → F 1 v0 v1 Z I L Q → jCt l yX12_sum w_X12_sum (rR12 d) D cy [.ref v0, .int v1] Z I L (rtI Z Q)) ∧ (∀ (v0 : Nat) (v1 : Int32) (Z : jZ) (I : jI) (L : jL) (Q : Int32 → jI → jL → Prop), SH Z → jk Z v0 12 → F 2 v0 v1 Z I L Q → jCt l yX12_product w_X12_product (rR12 d) D cy [.ref v0, .int v1] Z I L (rtI Z Q)) ∧ (∀ (v0 : Nat) (v1 : Int32) (Z : jZ) (I : jI) (L : jL) (Q : Int32 → jI → jL → Prop), SH Z → jk Z v0 12 → F 3 v0 v1 Z I L Q → jCt l yX12_thing w_X12_thing (rR12 d) D cy [.ref v0, .int v1] Z I L (rtI Z Q))
set_option maxRecDepth 100000 in
def f_X12_thing_b140 (F : FTR12)  (Z : jZ) (Q : Int32 → jI → jL → Prop) (v0 : Nat) (v2 : Int32) (I : jI) (L : jL) : Prop := (∀ I1 : jI, I1 = jpI I v0 26 ((I v0 26) + (1 : Int32)) → ((¬ (I1 v0 31) = (-1 : Int32) → (f_X12_letter v0 ((v2.toUInt32 % 65536).toInt32) Z I1 L (fun r9 I5 L6 => Q r9 I5 L6))) ∧ ((I1 v0 31) = (-1 : Int32) → Q (0 : Int32) I1 L)))
set_option maxHeartbeats 4000000 in
set_option maxRecDepth 100000 in
theorem m_X12_thing_b140 {G : jG} {d : Nat} {F : FTR12} {Z : jZ} {Q : Int32 → jI → jL → Prop} (E : jE G cX12_thing RX12 w_X12_thing 4 (some .int) (rR12 (d + 1)) (rtI Z Q)) (hF : HFR12 (gL G) (gD G) (gY G) d F) (hZ : SH Z)  (v0 : Nat) (v2 : Int32) (I : jI) (L : jL) (kv0 : jk Z v0 12) (h : f_X12_thing_b140 F  Z Q v0 v2 I L) : jJ G 4 140 [(0, .ref v0), (2, .int v2)] [] Z I L 0 0 := by
  refine j_aload_n E dX12_thing_140 0 rfl ?_
  refine j_dup E dX12_thing_141 rfl ?_
  refine j_geti E 12 26 rfl rfl (by decide) (by decide) (iw iT_12) rfl rfl (tw W_705) kv0 dX12_thing_142 ?_
  refine j_iconst E (v := 1) dX12_thing_145 (by decide) ?_
  refine j_iadd E dX12_thing_146 ?_
  refine j_puti E 12 26 rfl rfl (by decide) (by decide) (iw iT_12) tyX12_ok nmX12 rfl rfl (tw W_705) rfl rfl rfl kv0 dX12_thing_147 ?_
  refine j_nmI (fun I1 eI1 => ?_)
  have h := h I1 eI1
  refine j_aload_n E dX12_thing_150 0 rfl ?_
  refine j_geti E 12 31 rfl rfl (by decide) (by decide) (iw iT_12) rfl rfl (tw W_752) kv0 dX12_thing_151 ?_
  refine j_iconst E (v := -1) dX12_thing_154 (by decide) ?_
  refine j_icmp_ne E 162 dX12_thing_155 (by decide) (fun c2 => ?_) (fun c2 => ?_)
  · have h := h.1 c2
    refine j_aload_n E dX12_thing_162 0 rfl ?_
    refine j_iload_n E dX12_thing_163 1 rfl ?_
    refine j_i2c E dX12_thing_164 ?_
    refine j_callV E [.int ((v2.toUInt32 % 65536).toInt32)] [] (c_X12_letter (gL G) (gD G) (gY G) v0 ((v2.toUInt32 % 65536).toInt32) Z I1 L _ hZ kv0 h) (gwV W_762 W_763 W_764 W_695 W_761) rfl ⟨rfl, fy_X12_letter⟩ ⟨by show 1 + 1 ≤ d + 1 + 2; omega, by show 8 + (2 + 11) + 23 ≤ 24 * (d + 1) + 66; omega⟩ (c := 12) rfl (by decide) kv0 rfl rfl (Nat.le_of_ble_eq_true rfl) ⟨Nat.zero_le _, Nat.zero_le _⟩ dX12_thing_165 (fun v3 Z4 I5 L6 q7 => ?_)
    obtain ⟨rfl, r9, rfl, h⟩ := q7
    show jJ G 4 168 [(0, .ref v0), (2, .int v2)] [.int r9] Z I5 L6 0 0
    exact j_ireturn E ⟨rfl, _, rfl, h⟩ (Nat.zero_le _) (Nat.zero_le _) dX12_thing_168
  · have h := h.2 c2
    refine j_iconst E (v := 0) dX12_thing_158 (by decide) ?_
    refine j_goto E 168 dX12_thing_159 (by decide) ?_
    exact j_ireturn E ⟨rfl, _, rfl, h⟩ (Nat.zero_le _) (Nat.zero_le _) dX12_thing_168
set_option maxRecDepth 100000 in
def f_X12_thing_b67 (F : FTR12)  (Z : jZ) (Q : Int32 → jI → jL → Prop) (v0 : Nat) (v2 : Int32) (I : jI) (L : jL) : Prop := (f_X12_in v2 (48 : Int32) (57 : Int32) Z I L (fun r16 I12 L13 => ((r16 = 0 → ((v2 = (97 : Int32) → f_X12_thing_b140 F  Z Q v0 v2 I12 L13) ∧ (¬ (v2 = (97 : Int32)) → ((v2 = (114 : Int32) → f_X12_thing_b140 F  Z Q v0 v2 I12 L13) ∧ (¬ (v2 = (114 : Int32)) → ((v2 = (115 : Int32) → f_X12_thing_b140 F  Z Q v0 v2 I12 L13) ∧ (¬ (v2 = (115 : Int32)) → ((v2 = (119 : Int32) → f_X12_thing_b140 F  Z Q v0 v2 I12 L13) ∧ (¬ (v2 = (119 : Int32)) → ((v2 = (120 : Int32) → f_X12_thing_b140 F  Z Q v0 v2 I12 L13) ∧ (¬ (v2 = (120 : Int32)) → ((v2 = (108 : Int32) → f_X12_thing_b140 F  Z Q v0 v2 I12 L13) ∧ (¬ (v2 = (108 : Int32)) → ((v2 = (106 : Int32) → f_X12_thing_b140 F  Z Q v0 v2 I12 L13) ∧ (¬ (v2 = (106 : Int32)) → (f_X12_fault v0 (I12 v0 26) Z I12 L13 (fun I27 L28 => Q (0 : Int32) I27 L28))))))))))))))))) ∧ (¬ (r16 = 0) → (f_X12_number v0 (3 : Int32) (0 : Int32) (999 : Int32) Z I12 L13 (fun r37 I33 L34 => Q r37 I33 L34))))))
set_option maxHeartbeats 4000000 in
set_option maxRecDepth 100000 in
theorem m_X12_thing_b67 {G : jG} {d : Nat} {F : FTR12} {Z : jZ} {Q : Int32 → jI → jL → Prop} (E : jE G cX12_thing RX12 w_X12_thing 4 (some .int) (rR12 (d + 1)) (rtI Z Q)) (hF : HFR12 (gL G) (gD G) (gY G) d F) (hZ : SH Z)  (v0 : Nat) (v2 : Int32) (I : jI) (L : jL) (kv0 : jk Z v0 12) (h : f_X12_thing_b67 F  Z Q v0 v2 I L) : jJ G 4 67 [(0, .ref v0), (2, .int v2)] [] Z I L 0 0 := by
  refine j_iload_n E dX12_thing_67 1 rfl ?_
  refine j_bipush E (v := 48) dX12_thing_68 (by decide) ?_
  refine j_bipush E (v := 57) dX12_thing_70 (by decide) ?_
  refine j_callS E [.int v2, .int (48 : Int32), .int (57 : Int32)] [] (c_X12_in (gL G) (gD G) (gY G) v2 (48 : Int32) (57 : Int32) Z I L _ hZ  h) (gwS W_696 W_697 W_695 W_694) rfl fy_X12_in ⟨by show 0 + 1 ≤ d + 1 + 2; omega, by show 8 + (3 + 11) + 0 ≤ 24 * (d + 1) + 66; omega⟩ rfl rfl (Nat.le_of_ble_eq_true rfl) ⟨Nat.zero_le _, Nat.zero_le _⟩ dX12_thing_72 (fun v10 Z11 I12 L13 q14 => ?_)
  obtain ⟨rfl, r16, rfl, zr16, h⟩ := q14
  show jJ G 4 75 [(0, .ref v0), (2, .int v2)] [.int r16] Z I12 L13 0 0
  refine j_if_eq E 88 dX12_thing_75 (by decide) (fun c17 => ?_) (fun c17 => ?_)
  · have h := h.1 c17
    refine j_iload_n E dX12_thing_88 1 rfl ?_
    refine j_bipush E (v := 97) dX12_thing_89 (by decide) ?_
    refine j_icmp_eq E 140 dX12_thing_91 (by decide) (fun c18 => ?_) (fun c18 => ?_)
    · have h := h.1 c18
      refine j_sub [0, 1] rfl ?_
      exact m_X12_thing_b140 E hF hZ  v0 v2 I12 L13 kv0 h
    · have h := h.2 c18
      refine j_iload_n E dX12_thing_94 1 rfl ?_
      refine j_bipush E (v := 114) dX12_thing_95 (by decide) ?_
      refine j_icmp_eq E 140 dX12_thing_97 (by decide) (fun c19 => ?_) (fun c19 => ?_)
      · have h := h.1 c19
        refine j_sub [0, 1] rfl ?_
        exact m_X12_thing_b140 E hF hZ  v0 v2 I12 L13 kv0 h
      · have h := h.2 c19
        refine j_iload_n E dX12_thing_100 1 rfl ?_
        refine j_bipush E (v := 115) dX12_thing_101 (by decide) ?_
        refine j_icmp_eq E 140 dX12_thing_103 (by decide) (fun c20 => ?_) (fun c20 => ?_)
        · have h := h.1 c20
          refine j_sub [0, 1] rfl ?_
          exact m_X12_thing_b140 E hF hZ  v0 v2 I12 L13 kv0 h
        · have h := h.2 c20
          refine j_iload_n E dX12_thing_106 1 rfl ?_
          refine j_bipush E (v := 119) dX12_thing_107 (by decide) ?_
          refine j_icmp_eq E 140 dX12_thing_109 (by decide) (fun c21 => ?_) (fun c21 => ?_)
          · have h := h.1 c21
            refine j_sub [0, 1] rfl ?_
            exact m_X12_thing_b140 E hF hZ  v0 v2 I12 L13 kv0 h
          · have h := h.2 c21
            refine j_iload_n E dX12_thing_112 1 rfl ?_
            refine j_bipush E (v := 120) dX12_thing_113 (by decide) ?_
            refine j_icmp_eq E 140 dX12_thing_115 (by decide) (fun c22 => ?_) (fun c22 => ?_)
            · have h := h.1 c22
              refine j_sub [0, 1] rfl ?_
              exact m_X12_thing_b140 E hF hZ  v0 v2 I12 L13 kv0 h
            · have h := h.2 c22
              refine j_iload_n E dX12_thing_118 1 rfl ?_
              refine j_bipush E (v := 108) dX12_thing_119 (by decide) ?_
              refine j_icmp_eq E 140 dX12_thing_121 (by decide) (fun c23 => ?_) (fun c23 => ?_)
              · have h := h.1 c23
                refine j_sub [0, 1] rfl ?_
                exact m_X12_thing_b140 E hF hZ  v0 v2 I12 L13 kv0 h
              · have h := h.2 c23
                refine j_iload_n E dX12_thing_124 1 rfl ?_
                refine j_bipush E (v := 106) dX12_thing_125 (by decide) ?_
                refine j_icmp_eq E 140 dX12_thing_127 (by decide) (fun c24 => ?_) (fun c24 => ?_)
                · have h := h.1 c24
                  refine j_sub [0, 1] rfl ?_
                  exact m_X12_thing_b140 E hF hZ  v0 v2 I12 L13 kv0 h
                · have h := h.2 c24
                  refine j_aload_n E dX12_thing_130 0 rfl ?_
                  refine j_aload_n E dX12_thing_131 0 rfl ?_
                  refine j_geti E 12 26 rfl rfl (by decide) (by decide) (iw iT_12) rfl rfl (tw W_705) kv0 dX12_thing_132 ?_
                  refine j_callV E [.int (I12 v0 26)] [] (c_X12_fault (gL G) (gD G) (gY G) v0 (I12 v0 26) Z I12 L13 _ hZ kv0 h) (gwV W_720 W_721 W_722 W_695 W_719) rfl ⟨rfl, fy_X12_fault⟩ ⟨by show 1 + 1 ≤ d + 1 + 2; omega, by show 8 + (2 + 11) + 20 ≤ 24 * (d + 1) + 66; omega⟩ (c := 12) rfl (by decide) kv0 rfl rfl (Nat.le_of_ble_eq_true rfl) ⟨Nat.zero_le _, Nat.zero_le _⟩ dX12_thing_135 (fun v25 Z26 I27 L28 q29 => ?_)
                  obtain ⟨rfl, rfl, h⟩ := q29
                  show jJ G 4 138 [(0, .ref v0), (2, .int v2)] [] Z I27 L28 0 0
                  refine j_iconst E (v := 0) dX12_thing_138 (by decide) ?_
                  exact j_ireturn E ⟨rfl, _, rfl, h⟩ (Nat.zero_le _) (Nat.zero_le _) dX12_thing_139
  · have h := h.2 c17
    refine j_aload_n E dX12_thing_78 0 rfl ?_
    refine j_iconst E (v := 3) dX12_thing_79 (by decide) ?_
    refine j_iconst E (v := 0) dX12_thing_80 (by decide) ?_
    refine j_sipush E (v := 999) dX12_thing_81 (by decide) ?_
    refine j_callV E [.int (3 : Int32), .int (0 : Int32), .int (999 : Int32)] [] (c_X12_number (gL G) (gD G) (gY G) v0 (3 : Int32) (0 : Int32) (999 : Int32) Z I12 L13 _ hZ kv0 h) (gwV W_725 W_726 W_727 W_695 W_724) rfl ⟨rfl, fy_X12_number⟩ ⟨by show 2 + 1 ≤ d + 1 + 2; omega, by show 8 + (6 + 11) + 41 ≤ 24 * (d + 1) + 66; omega⟩ (c := 12) rfl (by decide) kv0 rfl rfl (Nat.le_of_ble_eq_true rfl) ⟨Nat.zero_le _, Nat.zero_le _⟩ dX12_thing_84 (fun v31 Z32 I33 L34 q35 => ?_)
    obtain ⟨rfl, r37, rfl, h⟩ := q35
    show jJ G 4 87 [(0, .ref v0), (2, .int v2)] [.int r37] Z I33 L34 0 0
    exact j_ireturn E ⟨rfl, _, rfl, h⟩ (Nat.zero_le _) (Nat.zero_le _) dX12_thing_87
set_option maxRecDepth 100000 in
def f_X12_thing (F : FTR12) (v0 : Nat) (v1 : Int32) (Z : jZ) (I : jI) (L : jL) (Q : Int32 → jI → jL → Prop) : Prop := (f_X12_passes v0 (45 : Int32) Z I L (fun r44 I40 L41 => ((r44 = 0 → (f_X12_fine v0 Z I40 L41 (fun r52 I48 L49 => ((¬ r52 = 0 → (f_X12_here v0 Z I48 L49 (fun r60 I56 L57 => ((¬ r60 = (40 : Int32) → f_X12_thing_b67 F  Z Q v0 r60 I56 L57) ∧ (r60 = (40 : Int32) → (((4 : Int32) ≤ v1 → f_X12_thing_b67 F  Z Q v0 r60 I56 L57) ∧ (¬ ((4 : Int32) ≤ v1) → (∀ I63 : jI, I63 = jpI I56 v0 26 ((I56 v0 26) + (1 : Int32)) → (F 0 v0 (v1 + (1 : Int32)) Z I63 L57 (fun r70 I66 L67 => (f_X12_need v0 (41 : Int32) Z I66 L67 (fun I73 L74 => Q r70 I73 L74)))))))))))) ∧ (r52 = 0 → Q (0 : Int32) I48 L49))))) ∧ (¬ (r44 = 0) → (F 3 v0 v1 Z I40 L41 (fun r83 I79 L80 => Q (-r83) I79 L80))))))
set_option maxHeartbeats 4000000 in
set_option maxRecDepth 100000 in
theorem c_X12_thing (l : Launch) (D : va_G) (cy : jC) {d : Nat} {F : FTR12} (hF : HFR12 l D cy d F) (v0 : Nat) (v1 : Int32) (Z : jZ) (I : jI) (L : jL) (Q : Int32 → jI → jL → Prop) (hZ : SH Z) (kv0 : jk Z v0 12) (h : f_X12_thing F v0 v1 Z I L Q) : jCt l yX12_thing w_X12_thing (rR12 (d + 1)) D cy [.ref v0, .int v1] Z I L (rtI Z Q) := by
  refine jCt_of (cc := cX12_thing) (maxL := 4) (ret := (some .int)) (by decide +kernel) rfl (Nat.le_of_ble_eq_true rfl) ?_
  intro G eD eY eL E
  subst eD; subst eY; subst eL
  have E : jE G cX12_thing RX12 w_X12_thing 4 (some .int) (rR12 (d + 1)) (rtI Z Q) := E
  show jJ G 4 0 [(0, .ref v0), (1, .int v1)] [] Z I L 0 0
  refine j_aload_n E dX12_thing_0 0 rfl ?_
  refine j_bipush E (v := 45) dX12_thing_1 (by decide) ?_
  refine j_callV E [.int (45 : Int32)] [] (c_X12_passes (gL G) (gD G) (gY G) v0 (45 : Int32) Z I L _ hZ kv0 h) (gwV W_716 W_717 W_718 W_695 W_715) rfl ⟨rfl, fy_X12_passes⟩ ⟨by show 1 + 1 ≤ d + 1 + 2; omega, by show 8 + (2 + 11) + 20 ≤ 24 * (d + 1) + 66; omega⟩ (c := 12) rfl (by decide) kv0 rfl rfl (Nat.le_of_ble_eq_true rfl) ⟨Nat.zero_le _, Nat.zero_le _⟩ dX12_thing_3 (fun v38 Z39 I40 L41 q42 => ?_)
  obtain ⟨rfl, r44, rfl, zr44, h⟩ := q42
  show jJ G 4 6 [(0, .ref v0), (1, .int v1)] [.int r44] Z I40 L41 0 0
  refine j_if_eq E 16 dX12_thing_6 (by decide) (fun c45 => ?_) (fun c45 => ?_)
  · have h := h.1 c45
    refine j_aload_n E dX12_thing_16 0 rfl ?_
    refine j_callV E [] [] (c_X12_fine (gL G) (gD G) (gY G) v0 Z I40 L41 _ hZ kv0 h) (gwV W_708 W_709 W_710 W_695 W_707) rfl ⟨rfl, fy_X12_fine⟩ ⟨by show 0 + 1 ≤ d + 1 + 2; omega, by show 8 + (1 + 11) + 0 ≤ 24 * (d + 1) + 66; omega⟩ (c := 12) rfl (by decide) kv0 rfl rfl (Nat.le_of_ble_eq_true rfl) ⟨Nat.zero_le _, Nat.zero_le _⟩ dX12_thing_17 (fun v46 Z47 I48 L49 q50 => ?_)
    obtain ⟨rfl, r52, rfl, zr52, h⟩ := q50
    show jJ G 4 20 [(0, .ref v0), (1, .int v1)] [.int r52] Z I48 L49 0 0
    refine j_if_ne E 25 dX12_thing_20 (by decide) (fun c53 => ?_) (fun c53 => ?_)
    · have h := h.1 c53
      refine j_aload_n E dX12_thing_25 0 rfl ?_
      refine j_callV E [] [] (c_X12_here (gL G) (gD G) (gY G) v0 Z I48 L49 _ hZ kv0 h) (gwV W_712 W_713 W_714 W_695 W_711) rfl ⟨rfl, fy_X12_here⟩ ⟨by show 0 + 1 ≤ d + 1 + 2; omega, by show 8 + (1 + 11) + 0 ≤ 24 * (d + 1) + 66; omega⟩ (c := 12) rfl (by decide) kv0 rfl rfl (Nat.le_of_ble_eq_true rfl) ⟨Nat.zero_le _, Nat.zero_le _⟩ dX12_thing_26 (fun v54 Z55 I56 L57 q58 => ?_)
      obtain ⟨rfl, r60, rfl, h⟩ := q58
      show jJ G 4 29 [(0, .ref v0), (1, .int v1)] [.int r60] Z I56 L57 0 0
      refine j_istore_n E 2 [(2, .int r60), (0, .ref v0), (1, .int v1)] dX12_thing_29 rfl (by decide) rfl ?_
      refine j_iload_n E dX12_thing_30 0 rfl ?_
      refine j_bipush E (v := 40) dX12_thing_31 (by decide) ?_
      refine j_icmp_ne E 67 dX12_thing_33 (by decide) (fun c61 => ?_) (fun c61 => ?_)
      · have h := h.1 c61
        refine j_sub [1, 0] rfl ?_
        exact m_X12_thing_b67 E hF hZ  v0 r60 I56 L57 kv0 h
      · have h := h.2 c61
        refine j_iload_n E dX12_thing_36 2 rfl ?_
        refine j_iconst E (v := 4) dX12_thing_37 (by decide) ?_
        refine j_icmp_ge E 67 dX12_thing_38 (by decide) (fun c62 => ?_) (fun c62 => ?_)
        · have h := h.1 c62
          refine j_sub [1, 0] rfl ?_
          exact m_X12_thing_b67 E hF hZ  v0 r60 I56 L57 kv0 h
        · have h := h.2 c62
          refine j_aload_n E dX12_thing_41 1 rfl ?_
          refine j_dup E dX12_thing_42 rfl ?_
          refine j_geti E 12 26 rfl rfl (by decide) (by decide) (iw iT_12) rfl rfl (tw W_705) kv0 dX12_thing_43 ?_
          refine j_iconst E (v := 1) dX12_thing_46 (by decide) ?_
          refine j_iadd E dX12_thing_47 ?_
          refine j_puti E 12 26 rfl rfl (by decide) (by decide) (iw iT_12) tyX12_ok nmX12 rfl rfl (tw W_705) rfl rfl rfl kv0 dX12_thing_48 ?_
          refine j_nmI (fun I63 eI63 => ?_)
          have h := h I63 eI63
          refine j_aload_n E dX12_thing_51 1 rfl ?_
          refine j_iload_n E dX12_thing_52 2 rfl ?_
          refine j_iconst E (v := 1) dX12_thing_53 (by decide) ?_
          refine j_iadd E dX12_thing_54 ?_
          refine j_callV E [.int (v1 + (1 : Int32))] [] (hF.1 v0 (v1 + (1 : Int32)) Z I63 L57 _ hZ kv0 h) (gwV W_766 W_767 W_768 W_695 W_765) rfl ⟨rfl, fy_X12_held⟩ ⟨by show d + 2 + 1 ≤ d + 1 + 2; omega, by show 8 + (3 + 11) + (24 * d + 66) ≤ 24 * (d + 1) + 66; omega⟩ (c := 12) rfl (by decide) kv0 rfl rfl (Nat.le_of_ble_eq_true rfl) ⟨Nat.zero_le _, Nat.zero_le _⟩ dX12_thing_55 (fun v64 Z65 I66 L67 q68 => ?_)
          obtain ⟨rfl, r70, rfl, h⟩ := q68
          show jJ G 4 58 [(2, .int r60), (0, .ref v0), (1, .int v1)] [.int r70] Z I66 L67 0 0
          refine j_istore_n E 3 [(3, .int r70), (2, .int r60), (0, .ref v0), (1, .int v1)] dX12_thing_58 rfl (by decide) rfl ?_
          refine j_aload_n E dX12_thing_59 2 rfl ?_
          refine j_bipush E (v := 41) dX12_thing_60 (by decide) ?_
          refine j_callV E [.int (41 : Int32)] [] (c_X12_need (gL G) (gD G) (gY G) v0 (41 : Int32) Z I66 L67 _ hZ kv0 h) (gwV W_729 W_730 W_731 W_695 W_728) rfl ⟨rfl, fy_X12_need⟩ ⟨by show 2 + 1 ≤ d + 1 + 2; omega, by show 8 + (2 + 11) + 41 ≤ 24 * (d + 1) + 66; omega⟩ (c := 12) rfl (by decide) kv0 rfl rfl (Nat.le_of_ble_eq_true rfl) ⟨Nat.zero_le _, Nat.zero_le _⟩ dX12_thing_62 (fun v71 Z72 I73 L74 q75 => ?_)
          obtain ⟨rfl, rfl, h⟩ := q75
          show jJ G 4 65 [(3, .int r70), (2, .int r60), (0, .ref v0), (1, .int v1)] [] Z I73 L74 0 0
          refine j_iload_n E dX12_thing_65 0 rfl ?_
          exact j_ireturn E ⟨rfl, _, rfl, h⟩ (Nat.zero_le _) (Nat.zero_le _) dX12_thing_66
    · have h := h.2 c53
      refine j_iconst E (v := 0) dX12_thing_23 (by decide) ?_
      exact j_ireturn E ⟨rfl, _, rfl, h⟩ (Nat.zero_le _) (Nat.zero_le _) dX12_thing_24
  · have h := h.2 c45
    refine j_aload_n E dX12_thing_9 0 rfl ?_
    refine j_iload_n E dX12_thing_10 1 rfl ?_
    refine j_callV E [.int v1] [] (hF.2.2.2 v0 v1 Z I40 L41 _ hZ kv0 h) (gwV W_770 W_771 W_772 W_695 W_769) rfl ⟨rfl, fy_X12_thing⟩ ⟨by show d + 2 + 1 ≤ d + 1 + 2; omega, by show 8 + (4 + 11) + (24 * d + 66) ≤ 24 * (d + 1) + 66; omega⟩ (c := 12) rfl (by decide) kv0 rfl rfl (Nat.le_of_ble_eq_true rfl) ⟨Nat.zero_le _, Nat.zero_le _⟩ dX12_thing_11 (fun v77 Z78 I79 L80 q81 => ?_)
    obtain ⟨rfl, r83, rfl, h⟩ := q81
    show jJ G 4 14 [(0, .ref v0), (1, .int v1)] [.int r83] Z I79 L80 0 0
    refine j_ineg E dX12_thing_14 ?_
    exact j_ireturn E ⟨rfl, _, rfl, h⟩ (Nat.zero_le _) (Nat.zero_le _) dX12_thing_15
set_option maxRecDepth 100000 in
def f_X12_product_b87 (F : FTR12) (K6 : Nat → Int32 → Int32 → jI → jL → Prop) (Z : jZ) (Q : Int32 → jI → jL → Prop) (v0 : Nat) (v1 : Int32) (s0 : Int32) (I : jI) (L : jL) : Prop := K6 v0 v1 s0 I L
set_option maxHeartbeats 4000000 in
set_option maxRecDepth 100000 in
theorem m_X12_product_b87 {G : jG} {d : Nat} {F : FTR12} {Z : jZ} {Q : Int32 → jI → jL → Prop} (E : jE G cX12_product RX12 w_X12_product 5 (some .int) (rR12 (d + 1)) (rtI Z Q)) (hF : HFR12 (gL G) (gD G) (gY G) d F) (hZ : SH Z) (K6 : Nat → Int32 → Int32 → jI → jL → Prop) (hK6 : ∀ (v0 : Nat) (v1 : Int32) (v2 : Int32) (I : jI) (L : jL), jk Z v0 12 → K6 v0 v1 v2 I L → jJ G 5 6 [(0, .ref v0), (1, .int v1), (2, .int v2)] [] Z I L 0 0) (v0 : Nat) (v1 : Int32) (s0 : Int32) (I : jI) (L : jL) (kv0 : jk Z v0 12) (h : f_X12_product_b87 F K6 Z Q v0 v1 s0 I L) : jJ G 5 87 [(0, .ref v0), (1, .int v1)] [.int s0] Z I L 0 0 := by
  refine j_istore_n E 2 [(2, .int s0), (0, .ref v0), (1, .int v1)] dX12_product_87 rfl (by decide) rfl ?_
  refine j_goto E 6 dX12_product_88 (by decide) ?_
  refine j_sub [1, 2, 0] rfl ?_
  exact hK6 v0 v1 s0 I L kv0 h
set_option maxRecDepth 100000 in
def f_X12_product_b45 (F : FTR12) (K6 : Nat → Int32 → Int32 → jI → jL → Prop) (Z : jZ) (Q : Int32 → jI → jL → Prop) (v0 : Nat) (v1 : Int32) (v2 : Int32) (s0 : Int32) (I : jI) (L : jL) : Prop := (∀ I1 : jI, I1 = jpI I v0 26 ((I v0 26) + (1 : Int32)) → (F 3 v0 v1 Z I1 L (fun r8 I4 L5 => ((s0 = 0 → ((¬ r8 = 0 → (¬ r8 = 0 ∧ f_X12_product_b87 F K6 Z Q v0 v1 (v2 / r8) I4 L5)) ∧ (r8 = 0 → f_X12_product_b87 F K6 Z Q v0 v1 (0 : Int32) I4 L5))) ∧ (¬ (s0 = 0) → f_X12_product_b87 F K6 Z Q v0 v1 (v2 * r8) I4 L5)))))
set_option maxHeartbeats 4000000 in
set_option maxRecDepth 100000 in
theorem m_X12_product_b45 {G : jG} {d : Nat} {F : FTR12} {Z : jZ} {Q : Int32 → jI → jL → Prop} (E : jE G cX12_product RX12 w_X12_product 5 (some .int) (rR12 (d + 1)) (rtI Z Q)) (hF : HFR12 (gL G) (gD G) (gY G) d F) (hZ : SH Z) (K6 : Nat → Int32 → Int32 → jI → jL → Prop) (hK6 : ∀ (v0 : Nat) (v1 : Int32) (v2 : Int32) (I : jI) (L : jL), jk Z v0 12 → K6 v0 v1 v2 I L → jJ G 5 6 [(0, .ref v0), (1, .int v1), (2, .int v2)] [] Z I L 0 0) (v0 : Nat) (v1 : Int32) (v2 : Int32) (s0 : Int32) (I : jI) (L : jL) (kv0 : jk Z v0 12) (h : f_X12_product_b45 F K6 Z Q v0 v1 v2 s0 I L) : jJ G 5 45 [(0, .ref v0), (1, .int v1), (2, .int v2)] [.int s0] Z I L 0 0 := by
  refine j_istore_n E 3 [(3, .int s0), (0, .ref v0), (1, .int v1), (2, .int v2)] dX12_product_45 rfl (by decide) rfl ?_
  refine j_aload_n E dX12_product_46 1 rfl ?_
  refine j_dup E dX12_product_47 rfl ?_
  refine j_geti E 12 26 rfl rfl (by decide) (by decide) (iw iT_12) rfl rfl (tw W_705) kv0 dX12_product_48 ?_
  refine j_iconst E (v := 1) dX12_product_51 (by decide) ?_
  refine j_iadd E dX12_product_52 ?_
  refine j_puti E 12 26 rfl rfl (by decide) (by decide) (iw iT_12) tyX12_ok nmX12 rfl rfl (tw W_705) rfl rfl rfl kv0 dX12_product_53 ?_
  refine j_nmI (fun I1 eI1 => ?_)
  have h := h I1 eI1
  refine j_aload_n E dX12_product_56 1 rfl ?_
  refine j_iload_n E dX12_product_57 2 rfl ?_
  refine j_callV E [.int v1] [] (hF.2.2.2 v0 v1 Z I1 L _ hZ kv0 h) (gwV W_770 W_771 W_772 W_695 W_769) rfl ⟨rfl, fy_X12_thing⟩ ⟨by show d + 2 + 1 ≤ d + 1 + 2; omega, by show 8 + (4 + 11) + (24 * d + 66) ≤ 24 * (d + 1) + 66; omega⟩ (c := 12) rfl (by decide) kv0 rfl rfl (Nat.le_of_ble_eq_true rfl) ⟨Nat.zero_le _, Nat.zero_le _⟩ dX12_product_58 (fun v2 Z3 I4 L5 q6 => ?_)
  obtain ⟨rfl, r8, rfl, h⟩ := q6
  show jJ G 5 61 [(3, .int s0), (0, .ref v0), (1, .int v1), (2, .int v2)] [.int r8] Z I4 L5 0 0
  refine j_istore E 4 [(4, .int r8), (3, .int s0), (0, .ref v0), (1, .int v1), (2, .int v2)] dX12_product_61 (by decide) rfl ?_
  refine j_iload_n E dX12_product_63 1 rfl ?_
  refine j_if_eq E 74 dX12_product_64 (by decide) (fun c9 => ?_) (fun c9 => ?_)
  · have h := h.1 c9
    refine j_iload E dX12_product_74 0 rfl ?_
    refine j_if_ne E 83 dX12_product_76 (by decide) (fun c10 => ?_) (fun c10 => ?_)
    · have h := h.1 c10
      refine j_iload_n E dX12_product_83 4 rfl ?_
      refine j_iload E dX12_product_84 0 rfl ?_
      obtain ⟨o11, h⟩ := h
      refine j_idiv E dX12_product_86 o11 ?_
      refine j_sub [2, 3] rfl ?_
      exact m_X12_product_b87 E hF hZ K6 hK6 v0 v1 (v2 / r8) I4 L5 kv0 h
    · have h := h.2 c10
      refine j_iconst E (v := 0) dX12_product_79 (by decide) ?_
      refine j_goto E 87 dX12_product_80 (by decide) ?_
      refine j_sub [2, 3] rfl ?_
      exact m_X12_product_b87 E hF hZ K6 hK6 v0 v1 (0 : Int32) I4 L5 kv0 h
  · have h := h.2 c9
    refine j_iload_n E dX12_product_67 4 rfl ?_
    refine j_iload E dX12_product_68 0 rfl ?_
    refine j_imul E dX12_product_70 ?_
    refine j_goto E 87 dX12_product_71 (by decide) ?_
    refine j_sub [2, 3] rfl ?_
    exact m_X12_product_b87 E hF hZ K6 hK6 v0 v1 (v2 * r8) I4 L5 kv0 h
set_option maxRecDepth 100000 in
def f_X12_product_b31 (F : FTR12) (K6 : Nat → Int32 → Int32 → jI → jL → Prop) (Z : jZ) (Q : Int32 → jI → jL → Prop) (v0 : Nat) (v1 : Int32) (v2 : Int32) (I : jI) (L : jL) : Prop := (f_X12_here v0 Z I L (fun r18 I14 L15 => ((¬ r18 = (42 : Int32) → f_X12_product_b45 F K6 Z Q v0 v1 v2 (0 : Int32) I14 L15) ∧ (r18 = (42 : Int32) → f_X12_product_b45 F K6 Z Q v0 v1 v2 (1 : Int32) I14 L15))))
set_option maxHeartbeats 4000000 in
set_option maxRecDepth 100000 in
theorem m_X12_product_b31 {G : jG} {d : Nat} {F : FTR12} {Z : jZ} {Q : Int32 → jI → jL → Prop} (E : jE G cX12_product RX12 w_X12_product 5 (some .int) (rR12 (d + 1)) (rtI Z Q)) (hF : HFR12 (gL G) (gD G) (gY G) d F) (hZ : SH Z) (K6 : Nat → Int32 → Int32 → jI → jL → Prop) (hK6 : ∀ (v0 : Nat) (v1 : Int32) (v2 : Int32) (I : jI) (L : jL), jk Z v0 12 → K6 v0 v1 v2 I L → jJ G 5 6 [(0, .ref v0), (1, .int v1), (2, .int v2)] [] Z I L 0 0) (v0 : Nat) (v1 : Int32) (v2 : Int32) (I : jI) (L : jL) (kv0 : jk Z v0 12) (h : f_X12_product_b31 F K6 Z Q v0 v1 v2 I L) : jJ G 5 31 [(0, .ref v0), (1, .int v1), (2, .int v2)] [] Z I L 0 0 := by
  refine j_aload_n E dX12_product_31 0 rfl ?_
  refine j_callV E [] [] (c_X12_here (gL G) (gD G) (gY G) v0 Z I L _ hZ kv0 h) (gwV W_712 W_713 W_714 W_695 W_711) rfl ⟨rfl, fy_X12_here⟩ ⟨by show 0 + 1 ≤ d + 1 + 2; omega, by show 8 + (1 + 11) + 0 ≤ 24 * (d + 1) + 66; omega⟩ (c := 12) rfl (by decide) kv0 rfl rfl (Nat.le_of_ble_eq_true rfl) ⟨Nat.zero_le _, Nat.zero_le _⟩ dX12_product_32 (fun v12 Z13 I14 L15 q16 => ?_)
  obtain ⟨rfl, r18, rfl, h⟩ := q16
  show jJ G 5 35 [(0, .ref v0), (1, .int v1), (2, .int v2)] [.int r18] Z I14 L15 0 0
  refine j_bipush E (v := 42) dX12_product_35 (by decide) ?_
  refine j_icmp_ne E 44 dX12_product_37 (by decide) (fun c19 => ?_) (fun c19 => ?_)
  · have h := h.1 c19
    refine j_iconst E (v := 0) dX12_product_44 (by decide) ?_
    refine j_sub [0, 1, 2] rfl ?_
    exact m_X12_product_b45 E hF hZ K6 hK6 v0 v1 v2 (0 : Int32) I14 L15 kv0 h
  · have h := h.2 c19
    refine j_iconst E (v := 1) dX12_product_40 (by decide) ?_
    refine j_goto E 45 dX12_product_41 (by decide) ?_
    refine j_sub [0, 1, 2] rfl ?_
    exact m_X12_product_b45 E hF hZ K6 hK6 v0 v1 v2 (1 : Int32) I14 L15 kv0 h
set_option maxRecDepth 100000 in
def f_X12_product_L6 (F : FTR12)  (Z : jZ) (Q : Int32 → jI → jL → Prop) : Nat → Nat → Int32 → Int32 → jI → jL → Prop
  | 0 => fun _ _ _ _ _ => False
  | n + 1 => fun v0 v1 v2 I L => (f_X12_fine v0 Z I L (fun r26 I22 L23 => ((r26 = 0 → Q v2 I22 L23) ∧ (¬ (r26 = 0) → (f_X12_here v0 Z I22 L23 (fun r34 I30 L31 => ((r34 = (42 : Int32) → f_X12_product_b31 F (f_X12_product_L6 F Z Q n) Z Q v0 v1 v2 I30 L31) ∧ (¬ (r34 = (42 : Int32)) → (f_X12_here v0 Z I30 L31 (fun r42 I38 L39 => ((¬ r42 = (47 : Int32) → Q v2 I38 L39) ∧ (r42 = (47 : Int32) → f_X12_product_b31 F (f_X12_product_L6 F Z Q n) Z Q v0 v1 v2 I38 L39))))))))))))
set_option maxHeartbeats 4000000 in
set_option maxRecDepth 100000 in
theorem m_X12_product_L6 {G : jG} {d : Nat} {F : FTR12} {Z : jZ} {Q : Int32 → jI → jL → Prop} (E : jE G cX12_product RX12 w_X12_product 5 (some .int) (rR12 (d + 1)) (rtI Z Q)) (hF : HFR12 (gL G) (gD G) (gY G) d F) (hZ : SH Z)  : ∀ (n : Nat) (v0 : Nat) (v1 : Int32) (v2 : Int32) (I : jI) (L : jL), jk Z v0 12 → f_X12_product_L6 F  Z Q n v0 v1 v2 I L → jJ G 5 6 [(0, .ref v0), (1, .int v1), (2, .int v2)] [] Z I L 0 0 := by
  intro n
  induction n with
  | zero => intro v0 v1 v2 I L _ h; exact h.elim
  | succ n ih =>
    intro v0 v1 v2 I L kv0 h
    have h : (f_X12_fine v0 Z I L (fun r26 I22 L23 => ((r26 = 0 → Q v2 I22 L23) ∧ (¬ (r26 = 0) → (f_X12_here v0 Z I22 L23 (fun r34 I30 L31 => ((r34 = (42 : Int32) → f_X12_product_b31 F (f_X12_product_L6 F Z Q n) Z Q v0 v1 v2 I30 L31) ∧ (¬ (r34 = (42 : Int32)) → (f_X12_here v0 Z I30 L31 (fun r42 I38 L39 => ((¬ r42 = (47 : Int32) → Q v2 I38 L39) ∧ (r42 = (47 : Int32) → f_X12_product_b31 F (f_X12_product_L6 F Z Q n) Z Q v0 v1 v2 I38 L39)))))))))))) := h
    obtain ⟨K6, eK6⟩ : ∃ K : Nat → Int32 → Int32 → jI → jL → Prop, K = f_X12_product_L6 F  Z Q n := ⟨_, rfl⟩
    have hK6 := ih
    clear eK6 K6
    generalize f_X12_product_L6 F  Z Q n = K6 at hK6 h
    refine j_aload_n E dX12_product_6 0 rfl ?_
    refine j_callV E [] [] (c_X12_fine (gL G) (gD G) (gY G) v0 Z I L _ hZ kv0 h) (gwV W_708 W_709 W_710 W_695 W_707) rfl ⟨rfl, fy_X12_fine⟩ ⟨by show 0 + 1 ≤ d + 1 + 2; omega, by show 8 + (1 + 11) + 0 ≤ 24 * (d + 1) + 66; omega⟩ (c := 12) rfl (by decide) kv0 rfl rfl (Nat.le_of_ble_eq_true rfl) ⟨Nat.zero_le _, Nat.zero_le _⟩ dX12_product_7 (fun v20 Z21 I22 L23 q24 => ?_)
    obtain ⟨rfl, r26, rfl, zr26, h⟩ := q24
    show jJ G 5 10 [(0, .ref v0), (1, .int v1), (2, .int v2)] [.int r26] Z I22 L23 0 0
    refine j_if_eq E 91 dX12_product_10 (by decide) (fun c27 => ?_) (fun c27 => ?_)
    · have h := h.1 c27
      refine j_iload_n E dX12_product_91 2 rfl ?_
      exact j_ireturn E ⟨rfl, _, rfl, h⟩ (Nat.zero_le _) (Nat.zero_le _) dX12_product_92
    · have h := h.2 c27
      refine j_aload_n E dX12_product_13 0 rfl ?_
      refine j_callV E [] [] (c_X12_here (gL G) (gD G) (gY G) v0 Z I22 L23 _ hZ kv0 h) (gwV W_712 W_713 W_714 W_695 W_711) rfl ⟨rfl, fy_X12_here⟩ ⟨by show 0 + 1 ≤ d + 1 + 2; omega, by show 8 + (1 + 11) + 0 ≤ 24 * (d + 1) + 66; omega⟩ (c := 12) rfl (by decide) kv0 rfl rfl (Nat.le_of_ble_eq_true rfl) ⟨Nat.zero_le _, Nat.zero_le _⟩ dX12_product_14 (fun v28 Z29 I30 L31 q32 => ?_)
      obtain ⟨rfl, r34, rfl, h⟩ := q32
      show jJ G 5 17 [(0, .ref v0), (1, .int v1), (2, .int v2)] [.int r34] Z I30 L31 0 0
      refine j_bipush E (v := 42) dX12_product_17 (by decide) ?_
      refine j_icmp_eq E 31 dX12_product_19 (by decide) (fun c35 => ?_) (fun c35 => ?_)
      · have h := h.1 c35
        refine j_sub [0, 1, 2] rfl ?_
        exact m_X12_product_b31 E hF hZ K6 hK6 v0 v1 v2 I30 L31 kv0 h
      · have h := h.2 c35
        refine j_aload_n E dX12_product_22 0 rfl ?_
        refine j_callV E [] [] (c_X12_here (gL G) (gD G) (gY G) v0 Z I30 L31 _ hZ kv0 h) (gwV W_712 W_713 W_714 W_695 W_711) rfl ⟨rfl, fy_X12_here⟩ ⟨by show 0 + 1 ≤ d + 1 + 2; omega, by show 8 + (1 + 11) + 0 ≤ 24 * (d + 1) + 66; omega⟩ (c := 12) rfl (by decide) kv0 rfl rfl (Nat.le_of_ble_eq_true rfl) ⟨Nat.zero_le _, Nat.zero_le _⟩ dX12_product_23 (fun v36 Z37 I38 L39 q40 => ?_)
        obtain ⟨rfl, r42, rfl, h⟩ := q40
        show jJ G 5 26 [(0, .ref v0), (1, .int v1), (2, .int v2)] [.int r42] Z I38 L39 0 0
        refine j_bipush E (v := 47) dX12_product_26 (by decide) ?_
        refine j_icmp_ne E 91 dX12_product_28 (by decide) (fun c43 => ?_) (fun c43 => ?_)
        · have h := h.1 c43
          refine j_iload_n E dX12_product_91 2 rfl ?_
          exact j_ireturn E ⟨rfl, _, rfl, h⟩ (Nat.zero_le _) (Nat.zero_le _) dX12_product_92
        · have h := h.2 c43
          refine j_sub [0, 1, 2] rfl ?_
          exact m_X12_product_b31 E hF hZ K6 hK6 v0 v1 v2 I38 L39 kv0 h
set_option maxRecDepth 100000 in
def f_X12_product (F : FTR12) (v0 : Nat) (v1 : Int32) (Z : jZ) (I : jI) (L : jL) (Q : Int32 → jI → jL → Prop) : Prop := (F 3 v0 v1 Z I L (fun r50 I46 L47 => (∃ m6 : Nat, f_X12_product_L6 F  Z Q m6 v0 v1 r50 I46 L47)))
set_option maxHeartbeats 4000000 in
set_option maxRecDepth 100000 in
theorem c_X12_product (l : Launch) (D : va_G) (cy : jC) {d : Nat} {F : FTR12} (hF : HFR12 l D cy d F) (v0 : Nat) (v1 : Int32) (Z : jZ) (I : jI) (L : jL) (Q : Int32 → jI → jL → Prop) (hZ : SH Z) (kv0 : jk Z v0 12) (h : f_X12_product F v0 v1 Z I L Q) : jCt l yX12_product w_X12_product (rR12 (d + 1)) D cy [.ref v0, .int v1] Z I L (rtI Z Q) := by
  refine jCt_of (cc := cX12_product) (maxL := 5) (ret := (some .int)) (by decide +kernel) rfl (Nat.le_of_ble_eq_true rfl) ?_
  intro G eD eY eL E
  subst eD; subst eY; subst eL
  have E : jE G cX12_product RX12 w_X12_product 5 (some .int) (rR12 (d + 1)) (rtI Z Q) := E
  show jJ G 5 0 [(0, .ref v0), (1, .int v1)] [] Z I L 0 0
  refine j_aload_n E dX12_product_0 0 rfl ?_
  refine j_iload_n E dX12_product_1 1 rfl ?_
  refine j_callV E [.int v1] [] (hF.2.2.2 v0 v1 Z I L _ hZ kv0 h) (gwV W_770 W_771 W_772 W_695 W_769) rfl ⟨rfl, fy_X12_thing⟩ ⟨by show d + 2 + 1 ≤ d + 1 + 2; omega, by show 8 + (4 + 11) + (24 * d + 66) ≤ 24 * (d + 1) + 66; omega⟩ (c := 12) rfl (by decide) kv0 rfl rfl (Nat.le_of_ble_eq_true rfl) ⟨Nat.zero_le _, Nat.zero_le _⟩ dX12_product_2 (fun v44 Z45 I46 L47 q48 => ?_)
  obtain ⟨rfl, r50, rfl, h⟩ := q48
  show jJ G 5 5 [(0, .ref v0), (1, .int v1)] [.int r50] Z I46 L47 0 0
  refine j_istore_n E 2 [(2, .int r50), (0, .ref v0), (1, .int v1)] dX12_product_5 rfl (by decide) rfl ?_
  obtain ⟨n51, h⟩ := h
  refine j_sub [1, 2, 0] rfl ?_
  exact m_X12_product_L6 E hF hZ  n51 v0 v1 r50 I46 L47 kv0 h
set_option maxRecDepth 100000 in
def f_X12_sum_b78 (F : FTR12) (K6 : Nat → Int32 → Int32 → jI → jL → Prop) (Z : jZ) (Q : Int32 → jI → jL → Prop) (v0 : Nat) (v1 : Int32) (s0 : Int32) (I : jI) (L : jL) : Prop := K6 v0 v1 s0 I L
set_option maxHeartbeats 4000000 in
set_option maxRecDepth 100000 in
theorem m_X12_sum_b78 {G : jG} {d : Nat} {F : FTR12} {Z : jZ} {Q : Int32 → jI → jL → Prop} (E : jE G cX12_sum RX12 w_X12_sum 5 (some .int) (rR12 (d + 1)) (rtI Z Q)) (hF : HFR12 (gL G) (gD G) (gY G) d F) (hZ : SH Z) (K6 : Nat → Int32 → Int32 → jI → jL → Prop) (hK6 : ∀ (v0 : Nat) (v1 : Int32) (v2 : Int32) (I : jI) (L : jL), jk Z v0 12 → K6 v0 v1 v2 I L → jJ G 5 6 [(0, .ref v0), (1, .int v1), (2, .int v2)] [] Z I L 0 0) (v0 : Nat) (v1 : Int32) (s0 : Int32) (I : jI) (L : jL) (kv0 : jk Z v0 12) (h : f_X12_sum_b78 F K6 Z Q v0 v1 s0 I L) : jJ G 5 78 [(0, .ref v0), (1, .int v1)] [.int s0] Z I L 0 0 := by
  refine j_istore_n E 2 [(2, .int s0), (0, .ref v0), (1, .int v1)] dX12_sum_78 rfl (by decide) rfl ?_
  refine j_goto E 6 dX12_sum_79 (by decide) ?_
  refine j_sub [1, 2, 0] rfl ?_
  exact hK6 v0 v1 s0 I L kv0 h
set_option maxRecDepth 100000 in
def f_X12_sum_b45 (F : FTR12) (K6 : Nat → Int32 → Int32 → jI → jL → Prop) (Z : jZ) (Q : Int32 → jI → jL → Prop) (v0 : Nat) (v1 : Int32) (v2 : Int32) (s0 : Int32) (I : jI) (L : jL) : Prop := (∀ I1 : jI, I1 = jpI I v0 26 ((I v0 26) + (1 : Int32)) → (F 2 v0 v1 Z I1 L (fun r8 I4 L5 => ((s0 = 0 → f_X12_sum_b78 F K6 Z Q v0 v1 (v2 - r8) I4 L5) ∧ (¬ (s0 = 0) → f_X12_sum_b78 F K6 Z Q v0 v1 (v2 + r8) I4 L5)))))
set_option maxHeartbeats 4000000 in
set_option maxRecDepth 100000 in
theorem m_X12_sum_b45 {G : jG} {d : Nat} {F : FTR12} {Z : jZ} {Q : Int32 → jI → jL → Prop} (E : jE G cX12_sum RX12 w_X12_sum 5 (some .int) (rR12 (d + 1)) (rtI Z Q)) (hF : HFR12 (gL G) (gD G) (gY G) d F) (hZ : SH Z) (K6 : Nat → Int32 → Int32 → jI → jL → Prop) (hK6 : ∀ (v0 : Nat) (v1 : Int32) (v2 : Int32) (I : jI) (L : jL), jk Z v0 12 → K6 v0 v1 v2 I L → jJ G 5 6 [(0, .ref v0), (1, .int v1), (2, .int v2)] [] Z I L 0 0) (v0 : Nat) (v1 : Int32) (v2 : Int32) (s0 : Int32) (I : jI) (L : jL) (kv0 : jk Z v0 12) (h : f_X12_sum_b45 F K6 Z Q v0 v1 v2 s0 I L) : jJ G 5 45 [(0, .ref v0), (1, .int v1), (2, .int v2)] [.int s0] Z I L 0 0 := by
  refine j_istore_n E 3 [(3, .int s0), (0, .ref v0), (1, .int v1), (2, .int v2)] dX12_sum_45 rfl (by decide) rfl ?_
  refine j_aload_n E dX12_sum_46 1 rfl ?_
  refine j_dup E dX12_sum_47 rfl ?_
  refine j_geti E 12 26 rfl rfl (by decide) (by decide) (iw iT_12) rfl rfl (tw W_705) kv0 dX12_sum_48 ?_
  refine j_iconst E (v := 1) dX12_sum_51 (by decide) ?_
  refine j_iadd E dX12_sum_52 ?_
  refine j_puti E 12 26 rfl rfl (by decide) (by decide) (iw iT_12) tyX12_ok nmX12 rfl rfl (tw W_705) rfl rfl rfl kv0 dX12_sum_53 ?_
  refine j_nmI (fun I1 eI1 => ?_)
  have h := h I1 eI1
  refine j_aload_n E dX12_sum_56 1 rfl ?_
  refine j_iload_n E dX12_sum_57 2 rfl ?_
  refine j_callV E [.int v1] [] (hF.2.2.1 v0 v1 Z I1 L _ hZ kv0 h) (gwV W_774 W_775 W_776 W_695 W_773) rfl ⟨rfl, fy_X12_product⟩ ⟨by show d + 2 + 1 ≤ d + 1 + 2; omega, by show 8 + (5 + 11) + (24 * d + 66) ≤ 24 * (d + 1) + 66; omega⟩ (c := 12) rfl (by decide) kv0 rfl rfl (Nat.le_of_ble_eq_true rfl) ⟨Nat.zero_le _, Nat.zero_le _⟩ dX12_sum_58 (fun v2 Z3 I4 L5 q6 => ?_)
  obtain ⟨rfl, r8, rfl, h⟩ := q6
  show jJ G 5 61 [(3, .int s0), (0, .ref v0), (1, .int v1), (2, .int v2)] [.int r8] Z I4 L5 0 0
  refine j_istore E 4 [(4, .int r8), (3, .int s0), (0, .ref v0), (1, .int v1), (2, .int v2)] dX12_sum_61 (by decide) rfl ?_
  refine j_iload_n E dX12_sum_63 1 rfl ?_
  refine j_if_eq E 74 dX12_sum_64 (by decide) (fun c9 => ?_) (fun c9 => ?_)
  · have h := h.1 c9
    refine j_iload_n E dX12_sum_74 4 rfl ?_
    refine j_iload E dX12_sum_75 0 rfl ?_
    refine j_isub E dX12_sum_77 ?_
    refine j_sub [2, 3] rfl ?_
    exact m_X12_sum_b78 E hF hZ K6 hK6 v0 v1 (v2 - r8) I4 L5 kv0 h
  · have h := h.2 c9
    refine j_iload_n E dX12_sum_67 4 rfl ?_
    refine j_iload E dX12_sum_68 0 rfl ?_
    refine j_iadd E dX12_sum_70 ?_
    refine j_goto E 78 dX12_sum_71 (by decide) ?_
    refine j_sub [2, 3] rfl ?_
    exact m_X12_sum_b78 E hF hZ K6 hK6 v0 v1 (v2 + r8) I4 L5 kv0 h
set_option maxRecDepth 100000 in
def f_X12_sum_b31 (F : FTR12) (K6 : Nat → Int32 → Int32 → jI → jL → Prop) (Z : jZ) (Q : Int32 → jI → jL → Prop) (v0 : Nat) (v1 : Int32) (v2 : Int32) (I : jI) (L : jL) : Prop := (f_X12_here v0 Z I L (fun r16 I12 L13 => ((¬ r16 = (43 : Int32) → f_X12_sum_b45 F K6 Z Q v0 v1 v2 (0 : Int32) I12 L13) ∧ (r16 = (43 : Int32) → f_X12_sum_b45 F K6 Z Q v0 v1 v2 (1 : Int32) I12 L13))))
set_option maxHeartbeats 4000000 in
set_option maxRecDepth 100000 in
theorem m_X12_sum_b31 {G : jG} {d : Nat} {F : FTR12} {Z : jZ} {Q : Int32 → jI → jL → Prop} (E : jE G cX12_sum RX12 w_X12_sum 5 (some .int) (rR12 (d + 1)) (rtI Z Q)) (hF : HFR12 (gL G) (gD G) (gY G) d F) (hZ : SH Z) (K6 : Nat → Int32 → Int32 → jI → jL → Prop) (hK6 : ∀ (v0 : Nat) (v1 : Int32) (v2 : Int32) (I : jI) (L : jL), jk Z v0 12 → K6 v0 v1 v2 I L → jJ G 5 6 [(0, .ref v0), (1, .int v1), (2, .int v2)] [] Z I L 0 0) (v0 : Nat) (v1 : Int32) (v2 : Int32) (I : jI) (L : jL) (kv0 : jk Z v0 12) (h : f_X12_sum_b31 F K6 Z Q v0 v1 v2 I L) : jJ G 5 31 [(0, .ref v0), (1, .int v1), (2, .int v2)] [] Z I L 0 0 := by
  refine j_aload_n E dX12_sum_31 0 rfl ?_
  refine j_callV E [] [] (c_X12_here (gL G) (gD G) (gY G) v0 Z I L _ hZ kv0 h) (gwV W_712 W_713 W_714 W_695 W_711) rfl ⟨rfl, fy_X12_here⟩ ⟨by show 0 + 1 ≤ d + 1 + 2; omega, by show 8 + (1 + 11) + 0 ≤ 24 * (d + 1) + 66; omega⟩ (c := 12) rfl (by decide) kv0 rfl rfl (Nat.le_of_ble_eq_true rfl) ⟨Nat.zero_le _, Nat.zero_le _⟩ dX12_sum_32 (fun v10 Z11 I12 L13 q14 => ?_)
  obtain ⟨rfl, r16, rfl, h⟩ := q14
  show jJ G 5 35 [(0, .ref v0), (1, .int v1), (2, .int v2)] [.int r16] Z I12 L13 0 0
  refine j_bipush E (v := 43) dX12_sum_35 (by decide) ?_
  refine j_icmp_ne E 44 dX12_sum_37 (by decide) (fun c17 => ?_) (fun c17 => ?_)
  · have h := h.1 c17
    refine j_iconst E (v := 0) dX12_sum_44 (by decide) ?_
    refine j_sub [0, 1, 2] rfl ?_
    exact m_X12_sum_b45 E hF hZ K6 hK6 v0 v1 v2 (0 : Int32) I12 L13 kv0 h
  · have h := h.2 c17
    refine j_iconst E (v := 1) dX12_sum_40 (by decide) ?_
    refine j_goto E 45 dX12_sum_41 (by decide) ?_
    refine j_sub [0, 1, 2] rfl ?_
    exact m_X12_sum_b45 E hF hZ K6 hK6 v0 v1 v2 (1 : Int32) I12 L13 kv0 h
set_option maxRecDepth 100000 in
def f_X12_sum_L6 (F : FTR12)  (Z : jZ) (Q : Int32 → jI → jL → Prop) : Nat → Nat → Int32 → Int32 → jI → jL → Prop
  | 0 => fun _ _ _ _ _ => False
  | n + 1 => fun v0 v1 v2 I L => (f_X12_fine v0 Z I L (fun r24 I20 L21 => ((r24 = 0 → Q v2 I20 L21) ∧ (¬ (r24 = 0) → (f_X12_here v0 Z I20 L21 (fun r32 I28 L29 => ((r32 = (43 : Int32) → f_X12_sum_b31 F (f_X12_sum_L6 F Z Q n) Z Q v0 v1 v2 I28 L29) ∧ (¬ (r32 = (43 : Int32)) → (f_X12_here v0 Z I28 L29 (fun r40 I36 L37 => ((¬ r40 = (45 : Int32) → Q v2 I36 L37) ∧ (r40 = (45 : Int32) → f_X12_sum_b31 F (f_X12_sum_L6 F Z Q n) Z Q v0 v1 v2 I36 L37))))))))))))
set_option maxHeartbeats 4000000 in
set_option maxRecDepth 100000 in
theorem m_X12_sum_L6 {G : jG} {d : Nat} {F : FTR12} {Z : jZ} {Q : Int32 → jI → jL → Prop} (E : jE G cX12_sum RX12 w_X12_sum 5 (some .int) (rR12 (d + 1)) (rtI Z Q)) (hF : HFR12 (gL G) (gD G) (gY G) d F) (hZ : SH Z)  : ∀ (n : Nat) (v0 : Nat) (v1 : Int32) (v2 : Int32) (I : jI) (L : jL), jk Z v0 12 → f_X12_sum_L6 F  Z Q n v0 v1 v2 I L → jJ G 5 6 [(0, .ref v0), (1, .int v1), (2, .int v2)] [] Z I L 0 0 := by
  intro n
  induction n with
  | zero => intro v0 v1 v2 I L _ h; exact h.elim
  | succ n ih =>
    intro v0 v1 v2 I L kv0 h
    have h : (f_X12_fine v0 Z I L (fun r24 I20 L21 => ((r24 = 0 → Q v2 I20 L21) ∧ (¬ (r24 = 0) → (f_X12_here v0 Z I20 L21 (fun r32 I28 L29 => ((r32 = (43 : Int32) → f_X12_sum_b31 F (f_X12_sum_L6 F Z Q n) Z Q v0 v1 v2 I28 L29) ∧ (¬ (r32 = (43 : Int32)) → (f_X12_here v0 Z I28 L29 (fun r40 I36 L37 => ((¬ r40 = (45 : Int32) → Q v2 I36 L37) ∧ (r40 = (45 : Int32) → f_X12_sum_b31 F (f_X12_sum_L6 F Z Q n) Z Q v0 v1 v2 I36 L37)))))))))))) := h
    obtain ⟨K6, eK6⟩ : ∃ K : Nat → Int32 → Int32 → jI → jL → Prop, K = f_X12_sum_L6 F  Z Q n := ⟨_, rfl⟩
    have hK6 := ih
    clear eK6 K6
    generalize f_X12_sum_L6 F  Z Q n = K6 at hK6 h
    refine j_aload_n E dX12_sum_6 0 rfl ?_
    refine j_callV E [] [] (c_X12_fine (gL G) (gD G) (gY G) v0 Z I L _ hZ kv0 h) (gwV W_708 W_709 W_710 W_695 W_707) rfl ⟨rfl, fy_X12_fine⟩ ⟨by show 0 + 1 ≤ d + 1 + 2; omega, by show 8 + (1 + 11) + 0 ≤ 24 * (d + 1) + 66; omega⟩ (c := 12) rfl (by decide) kv0 rfl rfl (Nat.le_of_ble_eq_true rfl) ⟨Nat.zero_le _, Nat.zero_le _⟩ dX12_sum_7 (fun v18 Z19 I20 L21 q22 => ?_)
    obtain ⟨rfl, r24, rfl, zr24, h⟩ := q22
    show jJ G 5 10 [(0, .ref v0), (1, .int v1), (2, .int v2)] [.int r24] Z I20 L21 0 0
    refine j_if_eq E 82 dX12_sum_10 (by decide) (fun c25 => ?_) (fun c25 => ?_)
    · have h := h.1 c25
      refine j_iload_n E dX12_sum_82 2 rfl ?_
      exact j_ireturn E ⟨rfl, _, rfl, h⟩ (Nat.zero_le _) (Nat.zero_le _) dX12_sum_83
    · have h := h.2 c25
      refine j_aload_n E dX12_sum_13 0 rfl ?_
      refine j_callV E [] [] (c_X12_here (gL G) (gD G) (gY G) v0 Z I20 L21 _ hZ kv0 h) (gwV W_712 W_713 W_714 W_695 W_711) rfl ⟨rfl, fy_X12_here⟩ ⟨by show 0 + 1 ≤ d + 1 + 2; omega, by show 8 + (1 + 11) + 0 ≤ 24 * (d + 1) + 66; omega⟩ (c := 12) rfl (by decide) kv0 rfl rfl (Nat.le_of_ble_eq_true rfl) ⟨Nat.zero_le _, Nat.zero_le _⟩ dX12_sum_14 (fun v26 Z27 I28 L29 q30 => ?_)
      obtain ⟨rfl, r32, rfl, h⟩ := q30
      show jJ G 5 17 [(0, .ref v0), (1, .int v1), (2, .int v2)] [.int r32] Z I28 L29 0 0
      refine j_bipush E (v := 43) dX12_sum_17 (by decide) ?_
      refine j_icmp_eq E 31 dX12_sum_19 (by decide) (fun c33 => ?_) (fun c33 => ?_)
      · have h := h.1 c33
        refine j_sub [0, 1, 2] rfl ?_
        exact m_X12_sum_b31 E hF hZ K6 hK6 v0 v1 v2 I28 L29 kv0 h
      · have h := h.2 c33
        refine j_aload_n E dX12_sum_22 0 rfl ?_
        refine j_callV E [] [] (c_X12_here (gL G) (gD G) (gY G) v0 Z I28 L29 _ hZ kv0 h) (gwV W_712 W_713 W_714 W_695 W_711) rfl ⟨rfl, fy_X12_here⟩ ⟨by show 0 + 1 ≤ d + 1 + 2; omega, by show 8 + (1 + 11) + 0 ≤ 24 * (d + 1) + 66; omega⟩ (c := 12) rfl (by decide) kv0 rfl rfl (Nat.le_of_ble_eq_true rfl) ⟨Nat.zero_le _, Nat.zero_le _⟩ dX12_sum_23 (fun v34 Z35 I36 L37 q38 => ?_)
        obtain ⟨rfl, r40, rfl, h⟩ := q38
        show jJ G 5 26 [(0, .ref v0), (1, .int v1), (2, .int v2)] [.int r40] Z I36 L37 0 0
        refine j_bipush E (v := 45) dX12_sum_26 (by decide) ?_
        refine j_icmp_ne E 82 dX12_sum_28 (by decide) (fun c41 => ?_) (fun c41 => ?_)
        · have h := h.1 c41
          refine j_iload_n E dX12_sum_82 2 rfl ?_
          exact j_ireturn E ⟨rfl, _, rfl, h⟩ (Nat.zero_le _) (Nat.zero_le _) dX12_sum_83
        · have h := h.2 c41
          refine j_sub [0, 1, 2] rfl ?_
          exact m_X12_sum_b31 E hF hZ K6 hK6 v0 v1 v2 I36 L37 kv0 h
set_option maxRecDepth 100000 in
def f_X12_sum (F : FTR12) (v0 : Nat) (v1 : Int32) (Z : jZ) (I : jI) (L : jL) (Q : Int32 → jI → jL → Prop) : Prop := (F 2 v0 v1 Z I L (fun r48 I44 L45 => (∃ m6 : Nat, f_X12_sum_L6 F  Z Q m6 v0 v1 r48 I44 L45)))
set_option maxHeartbeats 4000000 in
set_option maxRecDepth 100000 in
theorem c_X12_sum (l : Launch) (D : va_G) (cy : jC) {d : Nat} {F : FTR12} (hF : HFR12 l D cy d F) (v0 : Nat) (v1 : Int32) (Z : jZ) (I : jI) (L : jL) (Q : Int32 → jI → jL → Prop) (hZ : SH Z) (kv0 : jk Z v0 12) (h : f_X12_sum F v0 v1 Z I L Q) : jCt l yX12_sum w_X12_sum (rR12 (d + 1)) D cy [.ref v0, .int v1] Z I L (rtI Z Q) := by
  refine jCt_of (cc := cX12_sum) (maxL := 5) (ret := (some .int)) (by decide +kernel) rfl (Nat.le_of_ble_eq_true rfl) ?_
  intro G eD eY eL E
  subst eD; subst eY; subst eL
  have E : jE G cX12_sum RX12 w_X12_sum 5 (some .int) (rR12 (d + 1)) (rtI Z Q) := E
  show jJ G 5 0 [(0, .ref v0), (1, .int v1)] [] Z I L 0 0
  refine j_aload_n E dX12_sum_0 0 rfl ?_
  refine j_iload_n E dX12_sum_1 1 rfl ?_
  refine j_callV E [.int v1] [] (hF.2.2.1 v0 v1 Z I L _ hZ kv0 h) (gwV W_774 W_775 W_776 W_695 W_773) rfl ⟨rfl, fy_X12_product⟩ ⟨by show d + 2 + 1 ≤ d + 1 + 2; omega, by show 8 + (5 + 11) + (24 * d + 66) ≤ 24 * (d + 1) + 66; omega⟩ (c := 12) rfl (by decide) kv0 rfl rfl (Nat.le_of_ble_eq_true rfl) ⟨Nat.zero_le _, Nat.zero_le _⟩ dX12_sum_2 (fun v42 Z43 I44 L45 q46 => ?_)
  obtain ⟨rfl, r48, rfl, h⟩ := q46
  show jJ G 5 5 [(0, .ref v0), (1, .int v1)] [.int r48] Z I44 L45 0 0
  refine j_istore_n E 2 [(2, .int r48), (0, .ref v0), (1, .int v1)] dX12_sum_5 rfl (by decide) rfl ?_
  obtain ⟨n49, h⟩ := h
  refine j_sub [1, 2, 0] rfl ?_
  exact m_X12_sum_L6 E hF hZ  n49 v0 v1 r48 I44 L45 kv0 h
set_option maxRecDepth 100000 in
def f_X12_held (F : FTR12) (v0 : Nat) (v1 : Int32) (Z : jZ) (I : jI) (L : jL) (Q : Int32 → jI → jL → Prop) : Prop := (F 1 v0 v1 Z I L (fun r7 I3 L4 => (f_X12_passes v0 (60 : Int32) Z I3 L4 (fun r14 I10 L11 => ((r14 = 0 → (f_X12_passes v0 (62 : Int32) Z I10 L11 (fun r22 I18 L19 => ((r22 = 0 → (f_X12_passes v0 (61 : Int32) Z I18 L19 (fun r30 I26 L27 => ((r30 = 0 → Q r7 I26 L27) ∧ (¬ (r30 = 0) → (F 1 v0 v1 Z I26 L27 (fun r38 I34 L35 => ((¬ r7 = r38 → Q (0 : Int32) I34 L35) ∧ (r7 = r38 → Q (1 : Int32) I34 L35))))))))) ∧ (¬ (r22 = 0) → (F 1 v0 v1 Z I18 L19 (fun r46 I42 L43 => ((r7 ≤ r46 → Q (0 : Int32) I42 L43) ∧ (¬ (r7 ≤ r46) → Q (1 : Int32) I42 L43))))))))) ∧ (¬ (r14 = 0) → (F 1 v0 v1 Z I10 L11 (fun r54 I50 L51 => ((r54 ≤ r7 → Q (0 : Int32) I50 L51) ∧ (¬ (r54 ≤ r7) → Q (1 : Int32) I50 L51))))))))))
set_option maxHeartbeats 4000000 in
set_option maxRecDepth 100000 in
theorem c_X12_held (l : Launch) (D : va_G) (cy : jC) {d : Nat} {F : FTR12} (hF : HFR12 l D cy d F) (v0 : Nat) (v1 : Int32) (Z : jZ) (I : jI) (L : jL) (Q : Int32 → jI → jL → Prop) (hZ : SH Z) (kv0 : jk Z v0 12) (h : f_X12_held F v0 v1 Z I L Q) : jCt l yX12_held w_X12_held (rR12 (d + 1)) D cy [.ref v0, .int v1] Z I L (rtI Z Q) := by
  refine jCt_of (cc := cX12_held) (maxL := 3) (ret := (some .int)) (by decide +kernel) rfl (Nat.le_of_ble_eq_true rfl) ?_
  intro G eD eY eL E
  subst eD; subst eY; subst eL
  have E : jE G cX12_held RX12 w_X12_held 3 (some .int) (rR12 (d + 1)) (rtI Z Q) := E
  show jJ G 3 0 [(0, .ref v0), (1, .int v1)] [] Z I L 0 0
  refine j_aload_n E dX12_held_0 0 rfl ?_
  refine j_iload_n E dX12_held_1 1 rfl ?_
  refine j_callV E [.int v1] [] (hF.2.1 v0 v1 Z I L _ hZ kv0 h) (gwV W_778 W_779 W_780 W_695 W_777) rfl ⟨rfl, fy_X12_sum⟩ ⟨by show d + 2 + 1 ≤ d + 1 + 2; omega, by show 8 + (5 + 11) + (24 * d + 66) ≤ 24 * (d + 1) + 66; omega⟩ (c := 12) rfl (by decide) kv0 rfl rfl (Nat.le_of_ble_eq_true rfl) ⟨Nat.zero_le _, Nat.zero_le _⟩ dX12_held_2 (fun v1 Z2 I3 L4 q5 => ?_)
  obtain ⟨rfl, r7, rfl, h⟩ := q5
  show jJ G 3 5 [(0, .ref v0), (1, .int v1)] [.int r7] Z I3 L4 0 0
  refine j_istore_n E 2 [(2, .int r7), (0, .ref v0), (1, .int v1)] dX12_held_5 rfl (by decide) rfl ?_
  refine j_aload_n E dX12_held_6 1 rfl ?_
  refine j_bipush E (v := 60) dX12_held_7 (by decide) ?_
  refine j_callV E [.int (60 : Int32)] [] (c_X12_passes (gL G) (gD G) (gY G) v0 (60 : Int32) Z I3 L4 _ hZ kv0 h) (gwV W_716 W_717 W_718 W_695 W_715) rfl ⟨rfl, fy_X12_passes⟩ ⟨by show 1 + 1 ≤ d + 1 + 2; omega, by show 8 + (2 + 11) + 20 ≤ 24 * (d + 1) + 66; omega⟩ (c := 12) rfl (by decide) kv0 rfl rfl (Nat.le_of_ble_eq_true rfl) ⟨Nat.zero_le _, Nat.zero_le _⟩ dX12_held_9 (fun v8 Z9 I10 L11 q12 => ?_)
  obtain ⟨rfl, r14, rfl, zr14, h⟩ := q12
  show jJ G 3 12 [(2, .int r7), (0, .ref v0), (1, .int v1)] [.int r14] Z I10 L11 0 0
  refine j_if_eq E 30 dX12_held_12 (by decide) (fun c15 => ?_) (fun c15 => ?_)
  · have h := h.1 c15
    refine j_aload_n E dX12_held_30 1 rfl ?_
    refine j_bipush E (v := 62) dX12_held_31 (by decide) ?_
    refine j_callV E [.int (62 : Int32)] [] (c_X12_passes (gL G) (gD G) (gY G) v0 (62 : Int32) Z I10 L11 _ hZ kv0 h) (gwV W_716 W_717 W_718 W_695 W_715) rfl ⟨rfl, fy_X12_passes⟩ ⟨by show 1 + 1 ≤ d + 1 + 2; omega, by show 8 + (2 + 11) + 20 ≤ 24 * (d + 1) + 66; omega⟩ (c := 12) rfl (by decide) kv0 rfl rfl (Nat.le_of_ble_eq_true rfl) ⟨Nat.zero_le _, Nat.zero_le _⟩ dX12_held_33 (fun v16 Z17 I18 L19 q20 => ?_)
    obtain ⟨rfl, r22, rfl, zr22, h⟩ := q20
    show jJ G 3 36 [(2, .int r7), (0, .ref v0), (1, .int v1)] [.int r22] Z I18 L19 0 0
    refine j_if_eq E 54 dX12_held_36 (by decide) (fun c23 => ?_) (fun c23 => ?_)
    · have h := h.1 c23
      refine j_aload_n E dX12_held_54 1 rfl ?_
      refine j_bipush E (v := 61) dX12_held_55 (by decide) ?_
      refine j_callV E [.int (61 : Int32)] [] (c_X12_passes (gL G) (gD G) (gY G) v0 (61 : Int32) Z I18 L19 _ hZ kv0 h) (gwV W_716 W_717 W_718 W_695 W_715) rfl ⟨rfl, fy_X12_passes⟩ ⟨by show 1 + 1 ≤ d + 1 + 2; omega, by show 8 + (2 + 11) + 20 ≤ 24 * (d + 1) + 66; omega⟩ (c := 12) rfl (by decide) kv0 rfl rfl (Nat.le_of_ble_eq_true rfl) ⟨Nat.zero_le _, Nat.zero_le _⟩ dX12_held_57 (fun v24 Z25 I26 L27 q28 => ?_)
      obtain ⟨rfl, r30, rfl, zr30, h⟩ := q28
      show jJ G 3 60 [(2, .int r7), (0, .ref v0), (1, .int v1)] [.int r30] Z I26 L27 0 0
      refine j_if_eq E 78 dX12_held_60 (by decide) (fun c31 => ?_) (fun c31 => ?_)
      · have h := h.1 c31
        refine j_iload_n E dX12_held_78 0 rfl ?_
        exact j_ireturn E ⟨rfl, _, rfl, h⟩ (Nat.zero_le _) (Nat.zero_le _) dX12_held_79
      · have h := h.2 c31
        refine j_iload_n E dX12_held_63 0 rfl ?_
        refine j_aload_n E dX12_held_64 1 rfl ?_
        refine j_iload_n E dX12_held_65 2 rfl ?_
        refine j_callV E [.int v1] [.int r7] (hF.2.1 v0 v1 Z I26 L27 _ hZ kv0 h) (gwV W_778 W_779 W_780 W_695 W_777) rfl ⟨rfl, fy_X12_sum⟩ ⟨by show d + 2 + 1 ≤ d + 1 + 2; omega, by show 8 + (5 + 11) + (24 * d + 66) ≤ 24 * (d + 1) + 66; omega⟩ (c := 12) rfl (by decide) kv0 rfl rfl (Nat.le_of_ble_eq_true rfl) ⟨Nat.zero_le _, Nat.zero_le _⟩ dX12_held_66 (fun v32 Z33 I34 L35 q36 => ?_)
        obtain ⟨rfl, r38, rfl, h⟩ := q36
        show jJ G 3 69 [(2, .int r7), (0, .ref v0), (1, .int v1)] [.int r38, .int r7] Z I34 L35 0 0
        refine j_icmp_ne E 76 dX12_held_69 (by decide) (fun c39 => ?_) (fun c39 => ?_)
        · have h := h.1 c39
          refine j_iconst E (v := 0) dX12_held_76 (by decide) ?_
          exact j_ireturn E ⟨rfl, _, rfl, h⟩ (Nat.zero_le _) (Nat.zero_le _) dX12_held_77
        · have h := h.2 c39
          refine j_iconst E (v := 1) dX12_held_72 (by decide) ?_
          refine j_goto E 77 dX12_held_73 (by decide) ?_
          exact j_ireturn E ⟨rfl, _, rfl, h⟩ (Nat.zero_le _) (Nat.zero_le _) dX12_held_77
    · have h := h.2 c23
      refine j_iload_n E dX12_held_39 0 rfl ?_
      refine j_aload_n E dX12_held_40 1 rfl ?_
      refine j_iload_n E dX12_held_41 2 rfl ?_
      refine j_callV E [.int v1] [.int r7] (hF.2.1 v0 v1 Z I18 L19 _ hZ kv0 h) (gwV W_778 W_779 W_780 W_695 W_777) rfl ⟨rfl, fy_X12_sum⟩ ⟨by show d + 2 + 1 ≤ d + 1 + 2; omega, by show 8 + (5 + 11) + (24 * d + 66) ≤ 24 * (d + 1) + 66; omega⟩ (c := 12) rfl (by decide) kv0 rfl rfl (Nat.le_of_ble_eq_true rfl) ⟨Nat.zero_le _, Nat.zero_le _⟩ dX12_held_42 (fun v40 Z41 I42 L43 q44 => ?_)
      obtain ⟨rfl, r46, rfl, h⟩ := q44
      show jJ G 3 45 [(2, .int r7), (0, .ref v0), (1, .int v1)] [.int r46, .int r7] Z I42 L43 0 0
      refine j_icmp_le E 52 dX12_held_45 (by decide) (fun c47 => ?_) (fun c47 => ?_)
      · have h := h.1 c47
        refine j_iconst E (v := 0) dX12_held_52 (by decide) ?_
        exact j_ireturn E ⟨rfl, _, rfl, h⟩ (Nat.zero_le _) (Nat.zero_le _) dX12_held_53
      · have h := h.2 c47
        refine j_iconst E (v := 1) dX12_held_48 (by decide) ?_
        refine j_goto E 53 dX12_held_49 (by decide) ?_
        exact j_ireturn E ⟨rfl, _, rfl, h⟩ (Nat.zero_le _) (Nat.zero_le _) dX12_held_53
  · have h := h.2 c15
    refine j_iload_n E dX12_held_15 0 rfl ?_
    refine j_aload_n E dX12_held_16 1 rfl ?_
    refine j_iload_n E dX12_held_17 2 rfl ?_
    refine j_callV E [.int v1] [.int r7] (hF.2.1 v0 v1 Z I10 L11 _ hZ kv0 h) (gwV W_778 W_779 W_780 W_695 W_777) rfl ⟨rfl, fy_X12_sum⟩ ⟨by show d + 2 + 1 ≤ d + 1 + 2; omega, by show 8 + (5 + 11) + (24 * d + 66) ≤ 24 * (d + 1) + 66; omega⟩ (c := 12) rfl (by decide) kv0 rfl rfl (Nat.le_of_ble_eq_true rfl) ⟨Nat.zero_le _, Nat.zero_le _⟩ dX12_held_18 (fun v48 Z49 I50 L51 q52 => ?_)
    obtain ⟨rfl, r54, rfl, h⟩ := q52
    show jJ G 3 21 [(2, .int r7), (0, .ref v0), (1, .int v1)] [.int r54, .int r7] Z I50 L51 0 0
    refine j_icmp_ge E 28 dX12_held_21 (by decide) (fun c55 => ?_) (fun c55 => ?_)
    · have h := h.1 c55
      refine j_iconst E (v := 0) dX12_held_28 (by decide) ?_
      exact j_ireturn E ⟨rfl, _, rfl, h⟩ (Nat.zero_le _) (Nat.zero_le _) dX12_held_29
    · have h := h.2 c55
      refine j_iconst E (v := 1) dX12_held_24 (by decide) ?_
      refine j_goto E 29 dX12_held_25 (by decide) ?_
      exact j_ireturn E ⟨rfl, _, rfl, h⟩ (Nat.zero_le _) (Nat.zero_le _) dX12_held_29
set_option maxRecDepth 100000 in
def fR12 : Nat → FTR12
  | 0 => fun _ _ _ _ _ _ _ => False
  | d + 1 => fun w v0 v1 Z I L Q => match w with
    | 0 => f_X12_held (fR12 d) v0 v1 Z I L Q
    | 1 => f_X12_sum (fR12 d) v0 v1 Z I L Q
    | 2 => f_X12_product (fR12 d) v0 v1 Z I L Q
    | _ => f_X12_thing (fR12 d) v0 v1 Z I L Q
theorem hR12 (l : Launch) (D : va_G) (cy : jC) : ∀ d, HFR12 l D cy d (fR12 d) := by
  intro d
  induction d with
  | zero => exact ⟨fun _ _ _ _ _ _ _ _ h => h.elim, fun _ _ _ _ _ _ _ _ h => h.elim, fun _ _ _ _ _ _ _ _ h => h.elim, fun _ _ _ _ _ _ _ _ h => h.elim⟩
  | succ d ih => exact ⟨c_X12_held l D cy ih, c_X12_sum l D cy ih, c_X12_product l D cy ih, c_X12_thing l D cy ih⟩
set_option maxRecDepth 100000 in
def f_X12_law_L85 (B : Nat × Nat)  (Q : Int32 → jZ → jI → jL → Prop) : Nat → Nat → Int32 → Int32 → Int32 → jZ → jI → jL → Prop
  | 0 => fun _ _ _ _ _ _ _ => False
  | n + 1 => fun v0 v1 v2 v3 Z I L => ((v2 ≤ v3 → (∀ b2 : Nat, jr Z v0 30 = some b2 → (vp_in v1 2 ∧ (∀ I4 : jI, I4 = jpI I b2 v1.toNatClampNeg v2 → Q (0 : Int32) Z I4 L)))) ∧ (¬ (v2 ≤ v3) → (∀ b5 : Nat, jr Z v0 29 = some b5 → (vp_in v1 2 ∧ (∀ b7 : Nat, jr Z b5 v1.toNatClampNeg = some b7 → (∀ b8 : Nat, jr Z v0 18 = some b8 → (vp_in v3 80 ∧ (vp_in v3 40 ∧ (∀ I11 : jI, I11 = jpI I b7 v3.toNatClampNeg (vp_nar .byte (I b8 v3.toNatClampNeg)) → (∀ x12 : Int32, x12 = v3 + 1 → (f_X12_law_L85 B Q n) v0 v1 v2 x12 Z I11 L))))))))))
set_option maxHeartbeats 4000000 in
set_option maxRecDepth 100000 in
theorem m_X12_law_L85 {G : jG} {Z0 : jZ} {B : Nat × Nat} {Q : Int32 → jZ → jI → jL → Prop} (E : jE G cX12_law RX12 w_X12_law 4 (some .int) (jrm B 103 2488 Z0) jRF) (EU : jEU G B Z0 (urtI B Z0 Q))  : ∀ (n : Nat) (v0 : Nat) (v1 : Int32) (v2 : Int32) (v3 : Int32) (Z : jZ) (I : jI) (L : jL), SH Z → jext Z0 Z → jle Z0 Z → jin B Z → jk Z v0 12 → f_X12_law_L85 B  Q n v0 v1 v2 v3 Z I L → jJ G 4 85 [(0, .ref v0), (1, .int v1), (2, .int v2), (3, .int v3)] [] Z I L (jcz Z - jcz Z0) (jsz Z - jsz Z0) := by
  intro n
  induction n with
  | zero => intro v0 v1 v2 v3 Z I L _ _ _ _ _ h; exact h.elim
  | succ n ih =>
    intro v0 v1 v2 v3 Z I L hZ hx hc hb kv0 h
    have h : ((v2 ≤ v3 → (∀ b2 : Nat, jr Z v0 30 = some b2 → (vp_in v1 2 ∧ (∀ I4 : jI, I4 = jpI I b2 v1.toNatClampNeg v2 → Q (0 : Int32) Z I4 L)))) ∧ (¬ (v2 ≤ v3) → (∀ b5 : Nat, jr Z v0 29 = some b5 → (vp_in v1 2 ∧ (∀ b7 : Nat, jr Z b5 v1.toNatClampNeg = some b7 → (∀ b8 : Nat, jr Z v0 18 = some b8 → (vp_in v3 80 ∧ (vp_in v3 40 ∧ (∀ I11 : jI, I11 = jpI I b7 v3.toNatClampNeg (vp_nar .byte (I b8 v3.toNatClampNeg)) → (∀ x12 : Int32, x12 = v3 + 1 → (f_X12_law_L85 B Q n) v0 v1 v2 x12 Z I11 L)))))))))) := h
    obtain ⟨K85, eK85⟩ : ∃ K : Nat → Int32 → Int32 → Int32 → jZ → jI → jL → Prop, K = f_X12_law_L85 B  Q n := ⟨_, rfl⟩
    have hK85 := ih
    clear eK85 K85
    generalize f_X12_law_L85 B  Q n = K85 at hK85 h
    refine j_iload_n E dX12_law_85 3 rfl ?_
    refine j_iload_n E dX12_law_86 2 rfl ?_
    refine j_icmp_ge E 110 dX12_law_87 (by decide) (fun c1 => ?_) (fun c1 => ?_)
    · have h := h.1 c1
      refine j_aload_n E dX12_law_110 0 rfl ?_
      obtain ⟨b2, eb2, kb2, lb2⟩ := sh_f hZ kv0 (j := 30) (k := 14) (m := 2) rfl
      have h := h b2 eb2
      refine j_getr E 12 30 rfl rfl (by decide) (by decide) (iw iT_12) rfl rfl (tw W_781) kv0 eb2 dX12_law_111 ?_
      refine j_iload_n E dX12_law_114 1 rfl ?_
      refine j_iload_n E dX12_law_115 2 rfl ?_
      obtain ⟨o3, h⟩ := h
      refine j_iast E kb2 (by rw [lb2]; exact o3) dX12_law_116 ?_
      refine j_nmI (fun I4 eI4 => ?_)
      have h := h I4 eI4
      refine j_iconst E (v := 0) dX12_law_117 (by decide) ?_
      exact ju_ireturn E EU hc hb ⟨hx, hZ, hb, _, rfl, h⟩ dX12_law_118
    · have h := h.2 c1
      refine j_aload_n E dX12_law_90 0 rfl ?_
      obtain ⟨b5, eb5, kb5, lb5⟩ := sh_f hZ kv0 (j := 29) (k := 19) (m := 2) rfl
      have h := h b5 eb5
      refine j_getr E 12 29 rfl rfl (by decide) (by decide) (iw iT_12) rfl rfl (tw W_782) kv0 eb5 dX12_law_91 ?_
      refine j_iload_n E dX12_law_94 1 rfl ?_
      obtain ⟨o6, h⟩ := h
      refine j_aald19 E kb5 (by rw [lb5]; exact o6) dX12_law_95 ?_
      obtain ⟨b7, eb7, kb7, lb7⟩ := sh_b hZ kb5 (by rw [lb5]; exact o6)
      have h := h b7 eb7
      refine j_rfS eb7 ?_
      refine j_iload_n E dX12_law_96 3 rfl ?_
      refine j_aload_n E dX12_law_97 0 rfl ?_
      obtain ⟨b8, eb8, kb8, lb8⟩ := sh_f hZ kv0 (j := 18) (k := 13) (m := 80) rfl
      have h := h b8 eb8
      refine j_getr E 12 18 rfl rfl (by decide) (by decide) (iw iT_12) rfl rfl (tw W_701) kv0 eb8 dX12_law_98 ?_
      refine j_iload_n E dX12_law_101 3 rfl ?_
      obtain ⟨o9, h⟩ := h
      refine j_bald E kb8 (by rw [lb8]; exact o9) dX12_law_102 ?_
      obtain ⟨o10, h⟩ := h
      refine j_bast E kb7 (by rw [lb7]; exact o10) dX12_law_103 ?_
      refine j_nmI (fun I11 eI11 => ?_)
      have h := h I11 eI11
      obtain ⟨x12, ex12⟩ : ∃ y : Int32, y = v3 + 1 := ⟨_, rfl⟩
      have h := h x12 ex12
      refine j_iinc E x12 [(3, .int x12), (0, .ref v0), (1, .int v1), (2, .int v2)] dX12_law_104 3 rfl (by rw [ex12]; rfl) (by decide) rfl ?_
      refine j_goto E 85 dX12_law_107 (by decide) ?_
      refine j_sub [1, 2, 3, 0] rfl ?_
      exact hK85 v0 v1 v2 x12 Z I11 L hZ hx hc hb kv0 h
set_option maxRecDepth 100000 in
def f_X12_law_b83 (B : Nat × Nat)  (Q : Int32 → jZ → jI → jL → Prop) (v0 : Nat) (v1 : Int32) (v2 : Int32) (Z : jZ) (I : jI) (L : jL) : Prop := (∃ m85 : Nat, f_X12_law_L85 B  Q m85 v0 v1 v2 (0 : Int32) Z I L)
set_option maxHeartbeats 4000000 in
set_option maxRecDepth 100000 in
theorem m_X12_law_b83 {G : jG} {B : Nat × Nat} {Z0 : jZ} {Q : Int32 → jZ → jI → jL → Prop} (E : jE G cX12_law RX12 w_X12_law 4 (some .int) (jrm B 103 2488 Z0) jRF) (EU : jEU G B Z0 (urtI B Z0 Q))  (v0 : Nat) (v1 : Int32) (v2 : Int32) (Z : jZ) (I : jI) (L : jL) (hZ : SH Z) (hx : jext Z0 Z) (hc : jle Z0 Z) (hb : jin B Z) (kv0 : jk Z v0 12) (h : f_X12_law_b83 B  Q v0 v1 v2 Z I L) : jJ G 4 83 [(0, .ref v0), (1, .int v1), (2, .int v2)] [] Z I L (jcz Z - jcz Z0) (jsz Z - jsz Z0) := by
  refine j_iconst E (v := 0) dX12_law_83 (by decide) ?_
  refine j_istore_n E 3 [(3, .int (0 : Int32)), (0, .ref v0), (1, .int v1), (2, .int v2)] dX12_law_84 rfl (by decide) rfl ?_
  obtain ⟨n13, h⟩ := h
  refine j_sub [1, 2, 3, 0] rfl ?_
  exact m_X12_law_L85 E EU  n13 v0 v1 v2 (0 : Int32) Z I L hZ hx hc hb kv0 h
set_option maxRecDepth 100000 in
def f_X12_law_b69 (B : Nat × Nat)  (Q : Int32 → jZ → jI → jL → Prop) (v0 : Nat) (v1 : Int32) (v2 : Int32) (Z : jZ) (I : jI) (L : jL) : Prop := (f_X12_fine v0 Z I L (fun r20 I16 L17 => ((¬ r20 = 0 → f_X12_law_b83 B  Q v0 v1 v2 Z I16 L17) ∧ (r20 = 0 → Q ((-1 : Int32) - (I16 v0 27)) Z I16 L17))))
set_option maxHeartbeats 4000000 in
set_option maxRecDepth 100000 in
theorem m_X12_law_b69 {G : jG} {B : Nat × Nat} {Z0 : jZ} {Q : Int32 → jZ → jI → jL → Prop} (E : jE G cX12_law RX12 w_X12_law 4 (some .int) (jrm B 103 2488 Z0) jRF) (EU : jEU G B Z0 (urtI B Z0 Q))  (v0 : Nat) (v1 : Int32) (v2 : Int32) (Z : jZ) (I : jI) (L : jL) (hZ : SH Z) (hx : jext Z0 Z) (hc : jle Z0 Z) (hb : jin B Z) (kv0 : jk Z v0 12) (h : f_X12_law_b69 B  Q v0 v1 v2 Z I L) : jJ G 4 69 [(0, .ref v0), (1, .int v1), (2, .int v2)] [] Z I L (jcz Z - jcz Z0) (jsz Z - jsz Z0) := by
  refine j_aload_n E dX12_law_69 0 rfl ?_
  refine j_callV E [] [] (c_X12_fine (gL G) (gD G) (gY G) v0 Z I L _ hZ kv0 h) (gwV W_708 W_709 W_710 W_695 W_707) rfl ⟨rfl, fy_X12_fine⟩ ⟨Nat.le_of_ble_eq_true rfl, Nat.le_of_ble_eq_true rfl⟩ (c := 12) rfl (by decide) kv0 rfl rfl (Nat.le_of_ble_eq_true rfl) (ju_kn hb) dX12_law_70 (fun v14 Z15 I16 L17 q18 => ?_)
  obtain ⟨rfl, r20, rfl, zr20, h⟩ := q18
  show jJ G 4 73 [(0, .ref v0), (1, .int v1), (2, .int v2)] [.int r20] Z I16 L17 (jcz Z - jcz Z0) (jsz Z - jsz Z0)
  refine j_if_ne E 83 dX12_law_73 (by decide) (fun c21 => ?_) (fun c21 => ?_)
  · have h := h.1 c21
    refine j_sub [0, 1, 2] rfl ?_
    exact m_X12_law_b83 E EU  v0 v1 v2 Z I16 L17 hZ hx hc hb kv0 h
  · have h := h.2 c21
    refine j_iconst E (v := -1) dX12_law_76 (by decide) ?_
    refine j_aload_n E dX12_law_77 0 rfl ?_
    refine j_geti E 12 27 rfl rfl (by decide) (by decide) (iw iT_12) rfl rfl (tw W_706) kv0 dX12_law_78 ?_
    refine j_isub E dX12_law_81 ?_
    exact ju_ireturn E EU hc hb ⟨hx, hZ, hb, _, rfl, h⟩ dX12_law_82
set_option maxRecDepth 100000 in
def f_X12_law (B : Nat × Nat) (v0 : Nat) (v1 : Int32) (Z : jZ) (I : jI) (L : jL) (Q : Int32 → jZ → jI → jL → Prop) : Prop := (∀ I22 : jI, I22 = jpI I v0 22 (0 : Int32) → (∀ x23 : Int32, x23 = (I22 v0 19) → (∀ b24 : Nat, jr Z v0 18 = some b24 → (f_X12_begin B v0 b24 x23 (40 : Int32) Z I22 L (fun Z26 I27 L28 => (∀ I32 : jI, I32 = jpI I27 v0 19 (0 : Int32) → (f_X12_in v1 (0 : Int32) (1 : Int32) Z26 I32 L28 (fun r39 I35 L36 => ((¬ r39 = 0 → (∀ I41 : jI, I41 = jpI I35 v0 31 (-1 : Int32) → ((x23 ≤ 0 → f_X12_law_b83 B  Q v0 v1 x23 Z26 I41 L36) ∧ (¬ (x23 ≤ 0) → (fR12 100 0 v0 (0 : Int32) Z26 I41 L36 (fun r49 I45 L46 => ((x23 ≤ (I45 v0 26) → f_X12_law_b69 B  Q v0 v1 x23 Z26 I45 L46) ∧ (¬ (x23 ≤ (I45 v0 26)) → (f_X12_fault v0 (I45 v0 26) Z26 I45 L46 (fun I53 L54 => f_X12_law_b69 B  Q v0 v1 x23 Z26 I53 L54)))))))))) ∧ (r39 = 0 → Q (-100 : Int32) Z26 I35 L36))))))))))
set_option maxHeartbeats 4000000 in
set_option maxRecDepth 100000 in
theorem c_X12_law (l : Launch) (D : va_G) (cy : jC) (B : Nat × Nat) (v0 : Nat) (v1 : Int32) (Z : jZ) (I : jI) (L : jL) (Q : Int32 → jZ → jI → jL → Prop) (hZ : SH Z) (hb : jin B Z) (kv0 : jk Z v0 12) (h : f_X12_law B v0 v1 Z I L Q) : jCtU l yX12_law w_X12_law B 103 2488 D cy [.ref v0, .int v1] Z I L (urtI B Z Q) := by
  refine jCtU_of (cc := cX12_law) (maxL := 4) (ret := (some .int)) (by decide +kernel) rfl (Nat.le_of_ble_eq_true rfl) ?_
  intro G eD eY eL E EU
  subst eD; subst eY; subst eL
  have E : jE G cX12_law RX12 w_X12_law 4 (some .int) (jrm B 103 2488 Z) jRF := E
  have hx : jext Z Z := jext_rfl
  have hc : jle Z Z := jle_rfl
  show jJ G 4 0 [(0, .ref v0), (1, .int v1)] [] Z I L (jcz Z - jcz Z) (jsz Z - jsz Z)
  refine j_aload_n E dX12_law_0 0 rfl ?_
  refine j_iconst E (v := 0) dX12_law_1 (by decide) ?_
  refine j_puti E 12 22 rfl rfl (by decide) (by decide) (iw iT_12) tyX12_ok nmX12 rfl rfl (tw W_690) rfl rfl rfl kv0 dX12_law_2 ?_
  refine j_nmI (fun I22 eI22 => ?_)
  have h := h I22 eI22
  refine j_aload_n E dX12_law_5 0 rfl ?_
  refine j_geti E 12 19 rfl rfl (by decide) (by decide) (iw iT_12) rfl rfl (tw W_700) kv0 dX12_law_6 ?_
  refine j_topi (fun x23 ex23 => ?_)
  have h := h x23 ex23
  refine j_istore_n E 2 [(2, .int x23), (0, .ref v0), (1, .int v1)] dX12_law_9 rfl (by decide) rfl ?_
  refine j_aload_n E dX12_law_10 1 rfl ?_
  refine j_aload_n E dX12_law_11 1 rfl ?_
  obtain ⟨b24, eb24, kb24, lb24⟩ := sh_f hZ kv0 (j := 18) (k := 13) (m := 80) rfl
  have h := h b24 eb24
  refine j_getr E 12 18 rfl rfl (by decide) (by decide) (iw iT_12) rfl rfl (tw W_701) kv0 eb24 dX12_law_12 ?_
  refine j_iload_n E dX12_law_15 0 rfl ?_
  refine j_bipush E (v := 40) dX12_law_16 (by decide) ?_
  refine ju_callV E [.ref b24, .int x23, .int (40 : Int32)] [] (c_X12_begin (gL G) (gD G) (gY G) B v0 b24 x23 (40 : Int32) Z I22 L _ hZ hb kv0 kb24 h) (gwV W_749 W_750 W_751 W_695 W_748) rfl ⟨rfl, fy_X12_begin⟩ ⟨Nat.le_of_ble_eq_true rfl, Nat.le_of_ble_eq_true rfl⟩ (c := 12) rfl (by decide) kv0 rfl rfl (Nat.le_of_ble_eq_true rfl) (ju_f hc hb) dX12_law_18 (fun v25 Z26 I27 L28 q29 j30 => ?_)
  refine ju_next hc j30 ?_
  have hc := jle_trans hc j30
  obtain ⟨yZ26, hZ26, hbZ26, rfl, h⟩ := q29
  have hZ := hZ26
  have hx : jext Z Z26 := jext_trans hx yZ26
  have hb := hbZ26
  have k31 := (yZ26 _ _ kv0).1
  show jJ G 4 21 [(2, .int x23), (0, .ref v0), (1, .int v1)] [] Z26 I27 L28 (jcz Z26 - jcz Z) (jsz Z26 - jsz Z)
  refine j_aload_n E dX12_law_21 1 rfl ?_
  refine j_iconst E (v := 0) dX12_law_22 (by decide) ?_
  refine j_puti E 12 19 rfl rfl (by decide) (by decide) (iw iT_12) tyX12_ok nmX12 rfl rfl (tw W_700) rfl rfl rfl k31 dX12_law_23 ?_
  refine j_nmI (fun I32 eI32 => ?_)
  have h := h I32 eI32
  refine j_iload_n E dX12_law_26 2 rfl ?_
  refine j_iconst E (v := 0) dX12_law_27 (by decide) ?_
  refine j_iconst E (v := 1) dX12_law_28 (by decide) ?_
  refine j_callS E [.int v1, .int (0 : Int32), .int (1 : Int32)] [] (c_X12_in (gL G) (gD G) (gY G) v1 (0 : Int32) (1 : Int32) Z26 I32 L28 _ hZ  h) (gwS W_696 W_697 W_695 W_694) rfl fy_X12_in ⟨Nat.le_of_ble_eq_true rfl, Nat.le_of_ble_eq_true rfl⟩ rfl rfl (Nat.le_of_ble_eq_true rfl) (ju_kn hb) dX12_law_29 (fun v33 Z34 I35 L36 q37 => ?_)
  obtain ⟨rfl, r39, rfl, zr39, h⟩ := q37
  show jJ G 4 32 [(2, .int x23), (0, .ref v0), (1, .int v1)] [.int r39] Z26 I35 L36 (jcz Z26 - jcz Z) (jsz Z26 - jsz Z)
  refine j_if_ne E 38 dX12_law_32 (by decide) (fun c40 => ?_) (fun c40 => ?_)
  · have h := h.1 c40
    refine j_aload_n E dX12_law_38 1 rfl ?_
    refine j_iconst E (v := -1) dX12_law_39 (by decide) ?_
    refine j_puti E 12 31 rfl rfl (by decide) (by decide) (iw iT_12) tyX12_ok nmX12 rfl rfl (tw W_752) rfl rfl rfl k31 dX12_law_40 ?_
    refine j_nmI (fun I41 eI41 => ?_)
    have h := h I41 eI41
    refine j_iload_n E dX12_law_43 0 rfl ?_
    refine j_if_le E 83 dX12_law_44 (by decide) (fun c42 => ?_) (fun c42 => ?_)
    · have h := h.1 c42
      refine j_sub [1, 2, 0] rfl ?_
      exact m_X12_law_b83 E EU  v0 v1 x23 Z26 I41 L36 hZ hx hc hb k31 h
    · have h := h.2 c42
      refine j_aload_n E dX12_law_47 1 rfl ?_
      refine j_iconst E (v := 0) dX12_law_48 (by decide) ?_
      refine j_callV E [.int (0 : Int32)] [] ((hR12 (gL G) (gD G) (gY G) 100).1 v0 (0 : Int32) Z26 I41 L36 _ hZ k31 h) (gwV W_766 W_767 W_768 W_695 W_765) rfl ⟨rfl, fy_X12_held⟩ ⟨Nat.le_of_ble_eq_true rfl, Nat.le_of_ble_eq_true rfl⟩ (c := 12) rfl (by decide) k31 rfl rfl (Nat.le_of_ble_eq_true rfl) (ju_kn hb) dX12_law_49 (fun v43 Z44 I45 L46 q47 => ?_)
      obtain ⟨rfl, r49, rfl, h⟩ := q47
      show jJ G 4 52 [(2, .int x23), (0, .ref v0), (1, .int v1)] [.int r49] Z26 I45 L46 (jcz Z26 - jcz Z) (jsz Z26 - jsz Z)
      refine j_pop E dX12_law_52 rfl ?_
      refine j_aload_n E dX12_law_53 1 rfl ?_
      refine j_geti E 12 26 rfl rfl (by decide) (by decide) (iw iT_12) rfl rfl (tw W_705) k31 dX12_law_54 ?_
      refine j_iload_n E dX12_law_57 0 rfl ?_
      refine j_icmp_ge E 69 dX12_law_58 (by decide) (fun c50 => ?_) (fun c50 => ?_)
      · have h := h.1 c50
        refine j_sub [1, 2, 0] rfl ?_
        exact m_X12_law_b69 E EU  v0 v1 x23 Z26 I45 L46 hZ hx hc hb k31 h
      · have h := h.2 c50
        refine j_aload_n E dX12_law_61 1 rfl ?_
        refine j_aload_n E dX12_law_62 1 rfl ?_
        refine j_geti E 12 26 rfl rfl (by decide) (by decide) (iw iT_12) rfl rfl (tw W_705) k31 dX12_law_63 ?_
        refine j_callV E [.int (I45 v0 26)] [] (c_X12_fault (gL G) (gD G) (gY G) v0 (I45 v0 26) Z26 I45 L46 _ hZ k31 h) (gwV W_720 W_721 W_722 W_695 W_719) rfl ⟨rfl, fy_X12_fault⟩ ⟨Nat.le_of_ble_eq_true rfl, Nat.le_of_ble_eq_true rfl⟩ (c := 12) rfl (by decide) k31 rfl rfl (Nat.le_of_ble_eq_true rfl) (ju_kn hb) dX12_law_66 (fun v51 Z52 I53 L54 q55 => ?_)
        obtain ⟨rfl, rfl, h⟩ := q55
        show jJ G 4 69 [(2, .int x23), (0, .ref v0), (1, .int v1)] [] Z26 I53 L54 (jcz Z26 - jcz Z) (jsz Z26 - jsz Z)
        refine j_sub [1, 2, 0] rfl ?_
        exact m_X12_law_b69 E EU  v0 v1 x23 Z26 I53 L54 hZ hx hc hb k31 h
  · have h := h.2 c40
    refine j_bipush E (v := -100) dX12_law_35 (by decide) ?_
    exact ju_ireturn E EU hc hb ⟨hx, hZ, hb, _, rfl, h⟩ dX12_law_37
set_option maxRecDepth 100000 in
def f_X12_lawOf_b23 (B : Nat × Nat)  (Q : Int32 → jZ → jI → jL → Prop)  (Z : jZ) (I : jI) (L : jL) : Prop := Q (0 : Int32) Z I L
set_option maxHeartbeats 4000000 in
set_option maxRecDepth 100000 in
theorem m_X12_lawOf_b23 {G : jG} {B : Nat × Nat} {Z0 : jZ} {Q : Int32 → jZ → jI → jL → Prop} (E : jE G cX12_lawOf RX12 w_X12_lawOf 6 (some .int) (jrm B 103 2488 Z0) jRF) (EU : jEU G B Z0 (urtI B Z0 Q))   (Z : jZ) (I : jI) (L : jL) (hZ : SH Z) (hx : jext Z0 Z) (hc : jle Z0 Z) (hb : jin B Z)  (h : f_X12_lawOf_b23 B  Q  Z I L) : jJ G 6 23 [] [] Z I L (jcz Z - jcz Z0) (jsz Z - jsz Z0) := by
  refine j_iconst E (v := 0) dX12_lawOf_23 (by decide) ?_
  refine j_goto E 33 dX12_lawOf_24 (by decide) ?_
  exact ju_ireturn E EU hc hb ⟨hx, hZ, hb, _, rfl, h⟩ dX12_lawOf_33
set_option maxRecDepth 100000 in
def f_X12_lawOf (B : Nat × Nat) (v0 : Nat) (v1 : Int32) (v2 : Int32) (v3 : Int32) (v4 : Int32) (v5 : Int32) (Z : jZ) (I : jI) (L : jL) (Q : Int32 → jZ → jI → jL → Prop) : Prop := (∀ b1 : Nat, jr Z v0 30 = some b1 → (vp_in v1 2 ∧ ((¬ (I b1 v1.toNatClampNeg) = 0 → (∀ b4 : Nat, jr Z v0 29 = some b4 → (vp_in v1 2 ∧ (∀ b6 : Nat, jr Z b4 v1.toNatClampNeg = some b6 → (∀ b7 : Nat, jr Z v0 30 = some b7 → (vp_in v1 2 ∧ (f_X12_begin B v0 b6 (I b7 v1.toNatClampNeg) (40 : Int32) Z I L (fun Z10 I11 L12 => (∀ I16 : jI, I16 = jpI I11 v0 31 v2 → (∀ I17 : jI, I17 = jpI I16 v0 32 v3 → (∀ I18 : jI, I18 = jpI I17 v0 33 v4 → (∀ I19 : jI, I19 = jpI I18 v0 34 v5 → (fR12 100 0 v0 (0 : Int32) Z10 I19 L12 (fun r26 I22 L23 => Q (if (0 : Int32) < (if r26 < (99 : Int32) then r26 else (99 : Int32)) then (if r26 < (99 : Int32) then r26 else (99 : Int32)) else (0 : Int32)) Z10 I22 L23)))))))))))))) ∧ ((I b1 v1.toNatClampNeg) = 0 → ((v1 = (1 : Int32) → f_X12_lawOf_b23 B  Q  Z I L) ∧ (¬ (v1 = (1 : Int32)) → (∀ b28 : Nat, jr Z v0 4 = some b28 → (vp_in v2 24 ∧ (((I b28 v2.toNatClampNeg) = 0 → (∀ b31 : Nat, jr Z v0 3 = some b31 → (vp_in v2 24 ∧ Q (I b31 v2.toNatClampNeg) Z I L))) ∧ (¬ ((I b28 v2.toNatClampNeg) = 0) → f_X12_lawOf_b23 B  Q  Z I L))))))))))
set_option maxHeartbeats 4000000 in
set_option maxRecDepth 100000 in
theorem c_X12_lawOf (l : Launch) (D : va_G) (cy : jC) (B : Nat × Nat) (v0 : Nat) (v1 : Int32) (v2 : Int32) (v3 : Int32) (v4 : Int32) (v5 : Int32) (Z : jZ) (I : jI) (L : jL) (Q : Int32 → jZ → jI → jL → Prop) (hZ : SH Z) (hb : jin B Z) (kv0 : jk Z v0 12) (h : f_X12_lawOf B v0 v1 v2 v3 v4 v5 Z I L Q) : jCtU l yX12_lawOf w_X12_lawOf B 103 2488 D cy [.ref v0, .int v1, .int v2, .int v3, .int v4, .int v5] Z I L (urtI B Z Q) := by
  refine jCtU_of (cc := cX12_lawOf) (maxL := 6) (ret := (some .int)) (by decide +kernel) rfl (Nat.le_of_ble_eq_true rfl) ?_
  intro G eD eY eL E EU
  subst eD; subst eY; subst eL
  have E : jE G cX12_lawOf RX12 w_X12_lawOf 6 (some .int) (jrm B 103 2488 Z) jRF := E
  have hx : jext Z Z := jext_rfl
  have hc : jle Z Z := jle_rfl
  show jJ G 6 0 [(0, .ref v0), (1, .int v1), (2, .int v2), (3, .int v3), (4, .int v4), (5, .int v5)] [] Z I L (jcz Z - jcz Z) (jsz Z - jsz Z)
  refine j_aload_n E dX12_lawOf_0 0 rfl ?_
  obtain ⟨b1, eb1, kb1, lb1⟩ := sh_f hZ kv0 (j := 30) (k := 14) (m := 2) rfl
  have h := h b1 eb1
  refine j_getr E 12 30 rfl rfl (by decide) (by decide) (iw iT_12) rfl rfl (tw W_781) kv0 eb1 dX12_lawOf_1 ?_
  refine j_iload_n E dX12_lawOf_4 1 rfl ?_
  obtain ⟨o2, h⟩ := h
  refine j_iald E kb1 (by rw [lb1]; exact o2) dX12_lawOf_5 ?_
  refine j_if_ne E 34 dX12_lawOf_6 (by decide) (fun c3 => ?_) (fun c3 => ?_)
  · have h := h.1 c3
    refine j_aload_n E dX12_lawOf_34 0 rfl ?_
    refine j_aload_n E dX12_lawOf_35 0 rfl ?_
    obtain ⟨b4, eb4, kb4, lb4⟩ := sh_f hZ kv0 (j := 29) (k := 19) (m := 2) rfl
    have h := h b4 eb4
    refine j_getr E 12 29 rfl rfl (by decide) (by decide) (iw iT_12) rfl rfl (tw W_782) kv0 eb4 dX12_lawOf_36 ?_
    refine j_iload_n E dX12_lawOf_39 1 rfl ?_
    obtain ⟨o5, h⟩ := h
    refine j_aald19 E kb4 (by rw [lb4]; exact o5) dX12_lawOf_40 ?_
    obtain ⟨b6, eb6, kb6, lb6⟩ := sh_b hZ kb4 (by rw [lb4]; exact o5)
    have h := h b6 eb6
    refine j_rfS eb6 ?_
    refine j_aload_n E dX12_lawOf_41 0 rfl ?_
    obtain ⟨b7, eb7, kb7, lb7⟩ := sh_f hZ kv0 (j := 30) (k := 14) (m := 2) rfl
    have h := h b7 eb7
    refine j_getr E 12 30 rfl rfl (by decide) (by decide) (iw iT_12) rfl rfl (tw W_781) kv0 eb7 dX12_lawOf_42 ?_
    refine j_iload_n E dX12_lawOf_45 1 rfl ?_
    obtain ⟨o8, h⟩ := h
    refine j_iald E kb7 (by rw [lb7]; exact o8) dX12_lawOf_46 ?_
    refine j_bipush E (v := 40) dX12_lawOf_47 (by decide) ?_
    refine ju_callV E [.ref b6, .int (I b7 v1.toNatClampNeg), .int (40 : Int32)] [] (c_X12_begin (gL G) (gD G) (gY G) B v0 b6 (I b7 v1.toNatClampNeg) (40 : Int32) Z I L _ hZ hb kv0 kb6 h) (gwV W_749 W_750 W_751 W_695 W_748) rfl ⟨rfl, fy_X12_begin⟩ ⟨Nat.le_of_ble_eq_true rfl, Nat.le_of_ble_eq_true rfl⟩ (c := 12) rfl (by decide) kv0 rfl rfl (Nat.le_of_ble_eq_true rfl) (ju_f hc hb) dX12_lawOf_49 (fun v9 Z10 I11 L12 q13 j14 => ?_)
    refine ju_next hc j14 ?_
    have hc := jle_trans hc j14
    obtain ⟨yZ10, hZ10, hbZ10, rfl, h⟩ := q13
    have hZ := hZ10
    have hx : jext Z Z10 := jext_trans hx yZ10
    have hb := hbZ10
    have k15 := (yZ10 _ _ kv0).1
    show jJ G 6 52 [(0, .ref v0), (1, .int v1), (2, .int v2), (3, .int v3), (4, .int v4), (5, .int v5)] [] Z10 I11 L12 (jcz Z10 - jcz Z) (jsz Z10 - jsz Z)
    refine j_aload_n E dX12_lawOf_52 0 rfl ?_
    refine j_iload_n E dX12_lawOf_53 2 rfl ?_
    refine j_puti E 12 31 rfl rfl (by decide) (by decide) (iw iT_12) tyX12_ok nmX12 rfl rfl (tw W_752) rfl rfl rfl k15 dX12_lawOf_54 ?_
    refine j_nmI (fun I16 eI16 => ?_)
    have h := h I16 eI16
    refine j_aload_n E dX12_lawOf_57 0 rfl ?_
    refine j_iload_n E dX12_lawOf_58 3 rfl ?_
    refine j_puti E 12 32 rfl rfl (by decide) (by decide) (iw iT_12) tyX12_ok nmX12 rfl rfl (tw W_754) rfl rfl rfl k15 dX12_lawOf_59 ?_
    refine j_nmI (fun I17 eI17 => ?_)
    have h := h I17 eI17
    refine j_aload_n E dX12_lawOf_62 0 rfl ?_
    refine j_iload E dX12_lawOf_63 4 rfl ?_
    refine j_puti E 12 33 rfl rfl (by decide) (by decide) (iw iT_12) tyX12_ok nmX12 rfl rfl (tw W_753) rfl rfl rfl k15 dX12_lawOf_65 ?_
    refine j_nmI (fun I18 eI18 => ?_)
    have h := h I18 eI18
    refine j_aload_n E dX12_lawOf_68 0 rfl ?_
    refine j_iload E dX12_lawOf_69 5 rfl ?_
    refine j_puti E 12 34 rfl rfl (by decide) (by decide) (iw iT_12) tyX12_ok nmX12 rfl rfl (tw W_760) rfl rfl rfl k15 dX12_lawOf_71 ?_
    refine j_nmI (fun I19 eI19 => ?_)
    have h := h I19 eI19
    refine j_iconst E (v := 0) dX12_lawOf_74 (by decide) ?_
    refine j_bipush E (v := 99) dX12_lawOf_75 (by decide) ?_
    refine j_aload_n E dX12_lawOf_77 0 rfl ?_
    refine j_iconst E (v := 0) dX12_lawOf_78 (by decide) ?_
    refine j_callV E [.int (0 : Int32)] [.int (99 : Int32), .int (0 : Int32)] ((hR12 (gL G) (gD G) (gY G) 100).1 v0 (0 : Int32) Z10 I19 L12 _ hZ k15 h) (gwV W_766 W_767 W_768 W_695 W_765) rfl ⟨rfl, fy_X12_held⟩ ⟨Nat.le_of_ble_eq_true rfl, Nat.le_of_ble_eq_true rfl⟩ (c := 12) rfl (by decide) k15 rfl rfl (Nat.le_of_ble_eq_true rfl) (ju_kn hb) dX12_lawOf_79 (fun v20 Z21 I22 L23 q24 => ?_)
    obtain ⟨rfl, r26, rfl, h⟩ := q24
    show jJ G 6 82 [(0, .ref v0), (1, .int v1), (2, .int v2), (3, .int v3), (4, .int v4), (5, .int v5)] [.int r26, .int (99 : Int32), .int (0 : Int32)] Z10 I22 L23 (jcz Z10 - jcz Z) (jsz Z10 - jsz Z)
    refine j_min E (tw W_783) (tw W_7) (tw W_8) (tw W_9) (Nat.le_of_ble_eq_true rfl) (Nat.le_of_ble_eq_true rfl) (ju_k hb) (ju_n hb) dX12_lawOf_82 ?_
    refine j_max E (tw W_784) (tw W_147) (tw W_8) (tw W_148) (Nat.le_of_ble_eq_true rfl) (Nat.le_of_ble_eq_true rfl) (ju_k hb) (ju_n hb) dX12_lawOf_85 ?_
    exact ju_ireturn E EU hc hb ⟨hx, hZ, hb, _, rfl, h⟩ dX12_lawOf_88
  · have h := h.2 c3
    refine j_iload_n E dX12_lawOf_9 1 rfl ?_
    refine j_iconst E (v := 1) dX12_lawOf_10 (by decide) ?_
    refine j_icmp_eq E 23 dX12_lawOf_11 (by decide) (fun c27 => ?_) (fun c27 => ?_)
    · have h := h.1 c27
      refine j_sub [] rfl ?_
      exact m_X12_lawOf_b23 E EU   Z I L hZ hx hc hb  h
    · have h := h.2 c27
      refine j_aload_n E dX12_lawOf_14 0 rfl ?_
      obtain ⟨b28, eb28, kb28, lb28⟩ := sh_f hZ kv0 (j := 4) (k := 16) (m := 24) rfl
      have h := h b28 eb28
      refine j_getr E 12 4 rfl rfl (by decide) (by decide) (iw iT_12) rfl rfl (tw W_738) kv0 eb28 dX12_lawOf_15 ?_
      refine j_iload_n E dX12_lawOf_18 2 rfl ?_
      obtain ⟨o29, h⟩ := h
      refine j_zald E kb28 (by rw [lb28]; exact o29) dX12_lawOf_19 ?_
      refine j_if_eq E 27 dX12_lawOf_20 (by decide) (fun c30 => ?_) (fun c30 => ?_)
      · have h := h.1 c30
        refine j_aload_n E dX12_lawOf_27 0 rfl ?_
        obtain ⟨b31, eb31, kb31, lb31⟩ := sh_f hZ kv0 (j := 3) (k := 14) (m := 24) rfl
        have h := h b31 eb31
        refine j_getr E 12 3 rfl rfl (by decide) (by decide) (iw iT_12) rfl rfl (tw W_743) kv0 eb31 dX12_lawOf_28 ?_
        refine j_iload_n E dX12_lawOf_31 2 rfl ?_
        obtain ⟨o32, h⟩ := h
        refine j_iald E kb31 (by rw [lb31]; exact o32) dX12_lawOf_32 ?_
        exact ju_ireturn E EU hc hb ⟨hx, hZ, hb, _, rfl, h⟩ dX12_lawOf_33
      · have h := h.2 c30
        refine j_sub [] rfl ?_
        exact m_X12_lawOf_b23 E EU   Z I L hZ hx hc hb  h
set_option maxRecDepth 100000 in
def f_X12_step_b22  (Z : jZ) (Q : Int32 → jI → jL → Prop) (v0 : Nat) (I : jI) (L : jL) : Prop := (f_X12_lost v0 Z I L (fun r7 I3 L4 => Q r7 I3 L4))
set_option maxHeartbeats 4000000 in
set_option maxRecDepth 100000 in
theorem m_X12_step_b22 {G : jG} {Z : jZ} {Q : Int32 → jI → jL → Prop} (E : jE G cX12_step RX12 w_X12_step 3 (some .int) { frames := 2, cells := 0, slots := 0, locals := 43 } (rtI Z Q)) (hZ : SH Z)  (v0 : Nat) (I : jI) (L : jL) (kv0 : jk Z v0 12) (h : f_X12_step_b22  Z Q v0 I L) : jJ G 3 22 [(0, .ref v0)] [] Z I L 0 0 := by
  refine j_aload_n E dX12_step_22 0 rfl ?_
  refine j_callV E [] [] (c_X12_lost (gL G) (gD G) (gY G) v0 Z I L _ hZ kv0 h) (gwV W_786 W_787 W_788 W_695 W_785) rfl ⟨rfl, fy_X12_lost⟩ ⟨by decide, by decide⟩ (c := 12) rfl (by decide) kv0 rfl rfl (Nat.le_of_ble_eq_true rfl) ⟨Nat.zero_le _, Nat.zero_le _⟩ dX12_step_23 (fun v1 Z2 I3 L4 q5 => ?_)
  obtain ⟨rfl, r7, rfl, h⟩ := q5
  show jJ G 3 26 [(0, .ref v0)] [.int r7] Z I3 L4 0 0
  exact j_ireturn E ⟨rfl, _, rfl, h⟩ (Nat.zero_le _) (Nat.zero_le _) dX12_step_26
set_option maxRecDepth 100000 in
def f_X12_step (v0 : Nat) (v1 : Int32) (v2 : Int32) (Z : jZ) (I : jI) (L : jL) (Q : Int32 → jI → jL → Prop) : Prop := (∀ I8 : jI, I8 = jpI I v0 22 (0 : Int32) → (f_X12_isStep v0 v1 Z I8 L (fun r15 I11 L12 => ((r15 = 0 → f_X12_step_b22  Z Q v0 I11 L12) ∧ (¬ (r15 = 0) → (f_X12_in v2 (0 : Int32) (4 : Int32) Z I11 L12 (fun r23 I19 L20 => ((¬ r23 = 0 → ((¬ v2 = 0 → ((¬ v2 = (1 : Int32) → ((¬ v2 = (2 : Int32) → ((¬ v2 = (3 : Int32) → (f_X12_mainOf v0 v1 Z I19 L20 (fun r35 I31 L32 => Q r35 I31 L32))) ∧ (v2 = (3 : Int32) → (∀ b36 : Nat, jr Z v0 4 = some b36 → (vp_in v1 24 ∧ (((I19 b36 v1.toNatClampNeg) = 0 → Q (0 : Int32) I19 L20) ∧ (¬ ((I19 b36 v1.toNatClampNeg) = 0) → Q (1 : Int32) I19 L20))))))) ∧ (v2 = (2 : Int32) → (∀ b39 : Nat, jr Z v0 3 = some b39 → (vp_in v1 24 ∧ Q (I19 b39 v1.toNatClampNeg) I19 L20))))) ∧ (v2 = (1 : Int32) → (∀ b41 : Nat, jr Z v0 2 = some b41 → (vp_in v1 24 ∧ Q (I19 b41 v1.toNatClampNeg) I19 L20))))) ∧ (v2 = 0 → (∀ b43 : Nat, jr Z v0 1 = some b43 → (vp_in v1 24 ∧ Q (I19 b43 v1.toNatClampNeg) I19 L20))))) ∧ (r23 = 0 → f_X12_step_b22  Z Q v0 I19 L20)))))))))
set_option maxHeartbeats 4000000 in
set_option maxRecDepth 100000 in
theorem c_X12_step (l : Launch) (D : va_G) (cy : jC) (v0 : Nat) (v1 : Int32) (v2 : Int32) (Z : jZ) (I : jI) (L : jL) (Q : Int32 → jI → jL → Prop) (hZ : SH Z) (kv0 : jk Z v0 12) (h : f_X12_step v0 v1 v2 Z I L Q) : jCt l yX12_step w_X12_step { frames := 2, cells := 0, slots := 0, locals := 43 } D cy [.ref v0, .int v1, .int v2] Z I L (rtI Z Q) := by
  refine jCt_of (cc := cX12_step) (maxL := 3) (ret := (some .int)) (by decide +kernel) rfl (Nat.le_of_ble_eq_true rfl) ?_
  intro G eD eY eL E
  subst eD; subst eY; subst eL
  have E : jE G cX12_step RX12 w_X12_step 3 (some .int) { frames := 2, cells := 0, slots := 0, locals := 43 } (rtI Z Q) := E
  show jJ G 3 0 [(0, .ref v0), (1, .int v1), (2, .int v2)] [] Z I L 0 0
  refine j_aload_n E dX12_step_0 0 rfl ?_
  refine j_iconst E (v := 0) dX12_step_1 (by decide) ?_
  refine j_puti E 12 22 rfl rfl (by decide) (by decide) (iw iT_12) tyX12_ok nmX12 rfl rfl (tw W_690) rfl rfl rfl kv0 dX12_step_2 ?_
  refine j_nmI (fun I8 eI8 => ?_)
  have h := h I8 eI8
  refine j_aload_n E dX12_step_5 0 rfl ?_
  refine j_iload_n E dX12_step_6 1 rfl ?_
  refine j_callV E [.int v1] [] (c_X12_isStep (gL G) (gD G) (gY G) v0 v1 Z I8 L _ hZ kv0 h) (gwV W_790 W_791 W_792 W_695 W_789) rfl ⟨rfl, fy_X12_isStep⟩ ⟨by decide, by decide⟩ (c := 12) rfl (by decide) kv0 rfl rfl (Nat.le_of_ble_eq_true rfl) ⟨Nat.zero_le _, Nat.zero_le _⟩ dX12_step_7 (fun v9 Z10 I11 L12 q13 => ?_)
  obtain ⟨rfl, r15, rfl, zr15, h⟩ := q13
  show jJ G 3 10 [(0, .ref v0), (1, .int v1), (2, .int v2)] [.int r15] Z I11 L12 0 0
  refine j_if_eq E 22 dX12_step_10 (by decide) (fun c16 => ?_) (fun c16 => ?_)
  · have h := h.1 c16
    refine j_sub [0] rfl ?_
    exact m_X12_step_b22 E hZ  v0 I11 L12 kv0 h
  · have h := h.2 c16
    refine j_iload_n E dX12_step_13 2 rfl ?_
    refine j_iconst E (v := 0) dX12_step_14 (by decide) ?_
    refine j_iconst E (v := 4) dX12_step_15 (by decide) ?_
    refine j_callS E [.int v2, .int (0 : Int32), .int (4 : Int32)] [] (c_X12_in (gL G) (gD G) (gY G) v2 (0 : Int32) (4 : Int32) Z I11 L12 _ hZ  h) (gwS W_696 W_697 W_695 W_694) rfl fy_X12_in ⟨by decide, by decide⟩ rfl rfl (Nat.le_of_ble_eq_true rfl) ⟨Nat.zero_le _, Nat.zero_le _⟩ dX12_step_16 (fun v17 Z18 I19 L20 q21 => ?_)
    obtain ⟨rfl, r23, rfl, zr23, h⟩ := q21
    show jJ G 3 19 [(0, .ref v0), (1, .int v1), (2, .int v2)] [.int r23] Z I19 L20 0 0
    refine j_if_ne E 27 dX12_step_19 (by decide) (fun c24 => ?_) (fun c24 => ?_)
    · have h := h.1 c24
      refine j_iload_n E dX12_step_27 2 rfl ?_
      refine j_if_ne E 40 dX12_step_28 (by decide) (fun c25 => ?_) (fun c25 => ?_)
      · have h := h.1 c25
        refine j_iload_n E dX12_step_40 2 rfl ?_
        refine j_iconst E (v := 1) dX12_step_41 (by decide) ?_
        refine j_icmp_ne E 54 dX12_step_42 (by decide) (fun c26 => ?_) (fun c26 => ?_)
        · have h := h.1 c26
          refine j_iload_n E dX12_step_54 2 rfl ?_
          refine j_iconst E (v := 2) dX12_step_55 (by decide) ?_
          refine j_icmp_ne E 68 dX12_step_56 (by decide) (fun c27 => ?_) (fun c27 => ?_)
          · have h := h.1 c27
            refine j_iload_n E dX12_step_68 2 rfl ?_
            refine j_iconst E (v := 3) dX12_step_69 (by decide) ?_
            refine j_icmp_ne E 90 dX12_step_70 (by decide) (fun c28 => ?_) (fun c28 => ?_)
            · have h := h.1 c28
              refine j_aload_n E dX12_step_90 0 rfl ?_
              refine j_iload_n E dX12_step_91 1 rfl ?_
              refine j_callV E [.int v1] [] (c_X12_mainOf (gL G) (gD G) (gY G) v0 v1 Z I19 L20 _ hZ kv0 h) (gwV W_757 W_758 W_759 W_695 W_756) rfl ⟨rfl, fy_X12_mainOf⟩ ⟨by decide, by decide⟩ (c := 12) rfl (by decide) kv0 rfl rfl (Nat.le_of_ble_eq_true rfl) ⟨Nat.zero_le _, Nat.zero_le _⟩ dX12_step_92 (fun v29 Z30 I31 L32 q33 => ?_)
              obtain ⟨rfl, r35, rfl, h⟩ := q33
              show jJ G 3 95 [(0, .ref v0), (1, .int v1), (2, .int v2)] [.int r35] Z I31 L32 0 0
              exact j_ireturn E ⟨rfl, _, rfl, h⟩ (Nat.zero_le _) (Nat.zero_le _) dX12_step_95
            · have h := h.2 c28
              refine j_aload_n E dX12_step_73 0 rfl ?_
              obtain ⟨b36, eb36, kb36, lb36⟩ := sh_f hZ kv0 (j := 4) (k := 16) (m := 24) rfl
              have h := h b36 eb36
              refine j_getr E 12 4 rfl rfl (by decide) (by decide) (iw iT_12) rfl rfl (tw W_738) kv0 eb36 dX12_step_74 ?_
              refine j_iload_n E dX12_step_77 1 rfl ?_
              obtain ⟨o37, h⟩ := h
              refine j_zald E kb36 (by rw [lb36]; exact o37) dX12_step_78 ?_
              refine j_if_eq E 86 dX12_step_79 (by decide) (fun c38 => ?_) (fun c38 => ?_)
              · have h := h.1 c38
                refine j_iconst E (v := 0) dX12_step_86 (by decide) ?_
                refine j_goto E 95 dX12_step_87 (by decide) ?_
                exact j_ireturn E ⟨rfl, _, rfl, h⟩ (Nat.zero_le _) (Nat.zero_le _) dX12_step_95
              · have h := h.2 c38
                refine j_iconst E (v := 1) dX12_step_82 (by decide) ?_
                refine j_goto E 95 dX12_step_83 (by decide) ?_
                exact j_ireturn E ⟨rfl, _, rfl, h⟩ (Nat.zero_le _) (Nat.zero_le _) dX12_step_95
          · have h := h.2 c27
            refine j_aload_n E dX12_step_59 0 rfl ?_
            obtain ⟨b39, eb39, kb39, lb39⟩ := sh_f hZ kv0 (j := 3) (k := 14) (m := 24) rfl
            have h := h b39 eb39
            refine j_getr E 12 3 rfl rfl (by decide) (by decide) (iw iT_12) rfl rfl (tw W_743) kv0 eb39 dX12_step_60 ?_
            refine j_iload_n E dX12_step_63 1 rfl ?_
            obtain ⟨o40, h⟩ := h
            refine j_iald E kb39 (by rw [lb39]; exact o40) dX12_step_64 ?_
            refine j_goto E 95 dX12_step_65 (by decide) ?_
            exact j_ireturn E ⟨rfl, _, rfl, h⟩ (Nat.zero_le _) (Nat.zero_le _) dX12_step_95
        · have h := h.2 c26
          refine j_aload_n E dX12_step_45 0 rfl ?_
          obtain ⟨b41, eb41, kb41, lb41⟩ := sh_f hZ kv0 (j := 2) (k := 14) (m := 24) rfl
          have h := h b41 eb41
          refine j_getr E 12 2 rfl rfl (by decide) (by decide) (iw iT_12) rfl rfl (tw W_742) kv0 eb41 dX12_step_46 ?_
          refine j_iload_n E dX12_step_49 1 rfl ?_
          obtain ⟨o42, h⟩ := h
          refine j_iald E kb41 (by rw [lb41]; exact o42) dX12_step_50 ?_
          refine j_goto E 95 dX12_step_51 (by decide) ?_
          exact j_ireturn E ⟨rfl, _, rfl, h⟩ (Nat.zero_le _) (Nat.zero_le _) dX12_step_95
      · have h := h.2 c25
        refine j_aload_n E dX12_step_31 0 rfl ?_
        obtain ⟨b43, eb43, kb43, lb43⟩ := sh_f hZ kv0 (j := 1) (k := 14) (m := 24) rfl
        have h := h b43 eb43
        refine j_getr E 12 1 rfl rfl (by decide) (by decide) (iw iT_12) rfl rfl (tw W_741) kv0 eb43 dX12_step_32 ?_
        refine j_iload_n E dX12_step_35 1 rfl ?_
        obtain ⟨o44, h⟩ := h
        refine j_iald E kb43 (by rw [lb43]; exact o44) dX12_step_36 ?_
        refine j_goto E 95 dX12_step_37 (by decide) ?_
        exact j_ireturn E ⟨rfl, _, rfl, h⟩ (Nat.zero_le _) (Nat.zero_le _) dX12_step_95
    · have h := h.2 c24
      refine j_sub [0] rfl ?_
      exact m_X12_step_b22 E hZ  v0 I19 L20 kv0 h
set_option maxRecDepth 100000 in
def f_X12_set_b62  (Z : jZ) (Q : Int32 → jI → jL → Prop) (v0 : Nat) (v1 : Int32) (v2 : Int32) (v3 : Int32) (s0 : Int32) (I : jI) (L : jL) : Prop := ((¬ v2 = 0 → (∀ b2 : Nat, jr Z v0 2 = some b2 → (vp_in v1 24 ∧ (∀ I4 : jI, I4 = jpI I b2 v1.toNatClampNeg v3 → Q s0 I4 L)))) ∧ (v2 = 0 → (∀ b5 : Nat, jr Z v0 3 = some b5 → (vp_in v1 24 ∧ (∀ I7 : jI, I7 = jpI I b5 v1.toNatClampNeg v3 → Q s0 I7 L)))))
set_option maxHeartbeats 4000000 in
set_option maxRecDepth 100000 in
theorem m_X12_set_b62 {G : jG} {Z : jZ} {Q : Int32 → jI → jL → Prop} (E : jE G cX12_set RX12 w_X12_set 5 (some .int) { frames := 2, cells := 0, slots := 0, locals := 43 } (rtI Z Q)) (hZ : SH Z)  (v0 : Nat) (v1 : Int32) (v2 : Int32) (v3 : Int32) (s0 : Int32) (I : jI) (L : jL) (kv0 : jk Z v0 12) (h : f_X12_set_b62  Z Q v0 v1 v2 v3 s0 I L) : jJ G 5 62 [(0, .ref v0), (1, .int v1), (2, .int v2), (3, .int v3)] [.int s0] Z I L 0 0 := by
  refine j_istore E 4 [(4, .int s0), (0, .ref v0), (1, .int v1), (2, .int v2), (3, .int v3)] dX12_set_62 (by decide) rfl ?_
  refine j_iload_n E dX12_set_64 3 rfl ?_
  refine j_if_ne E 78 dX12_set_65 (by decide) (fun c1 => ?_) (fun c1 => ?_)
  · have h := h.1 c1
    refine j_aload_n E dX12_set_78 1 rfl ?_
    obtain ⟨b2, eb2, kb2, lb2⟩ := sh_f hZ kv0 (j := 2) (k := 14) (m := 24) rfl
    have h := h b2 eb2
    refine j_getr E 12 2 rfl rfl (by decide) (by decide) (iw iT_12) rfl rfl (tw W_742) kv0 eb2 dX12_set_79 ?_
    refine j_iload_n E dX12_set_82 2 rfl ?_
    refine j_iload_n E dX12_set_83 4 rfl ?_
    obtain ⟨o3, h⟩ := h
    refine j_iast E kb2 (by rw [lb2]; exact o3) dX12_set_84 ?_
    refine j_nmI (fun I4 eI4 => ?_)
    have h := h I4 eI4
    refine j_iload E dX12_set_85 0 rfl ?_
    exact j_ireturn E ⟨rfl, _, rfl, h⟩ (Nat.zero_le _) (Nat.zero_le _) dX12_set_87
  · have h := h.2 c1
    refine j_aload_n E dX12_set_68 1 rfl ?_
    obtain ⟨b5, eb5, kb5, lb5⟩ := sh_f hZ kv0 (j := 3) (k := 14) (m := 24) rfl
    have h := h b5 eb5
    refine j_getr E 12 3 rfl rfl (by decide) (by decide) (iw iT_12) rfl rfl (tw W_743) kv0 eb5 dX12_set_69 ?_
    refine j_iload_n E dX12_set_72 2 rfl ?_
    refine j_iload_n E dX12_set_73 4 rfl ?_
    obtain ⟨o6, h⟩ := h
    refine j_iast E kb5 (by rw [lb5]; exact o6) dX12_set_74 ?_
    refine j_nmI (fun I7 eI7 => ?_)
    have h := h I7 eI7
    refine j_goto E 85 dX12_set_75 (by decide) ?_
    refine j_iload E dX12_set_85 0 rfl ?_
    exact j_ireturn E ⟨rfl, _, rfl, h⟩ (Nat.zero_le _) (Nat.zero_le _) dX12_set_87
set_option maxRecDepth 100000 in
def f_X12_set_b35  (Z : jZ) (Q : Int32 → jI → jL → Prop) (v0 : Nat) (v1 : Int32) (v2 : Int32) (v3 : Int32) (s0 : Int32) (s1 : Int32) (s2 : Int32) (I : jI) (L : jL) : Prop := (f_X12_in s0 s1 s2 Z I L (fun r14 I10 L11 => ((¬ r14 = 0 → ((¬ v2 = 0 → (∀ b17 : Nat, jr Z v0 2 = some b17 → (vp_in v1 24 ∧ f_X12_set_b62  Z Q v0 v1 v2 v3 (I10 b17 v1.toNatClampNeg) I10 L11))) ∧ (v2 = 0 → (∀ b19 : Nat, jr Z v0 3 = some b19 → (vp_in v1 24 ∧ f_X12_set_b62  Z Q v0 v1 v2 v3 (I10 b19 v1.toNatClampNeg) I10 L11))))) ∧ (r14 = 0 → Q (-1 : Int32) I10 L11))))
set_option maxHeartbeats 4000000 in
set_option maxRecDepth 100000 in
theorem m_X12_set_b35 {G : jG} {Z : jZ} {Q : Int32 → jI → jL → Prop} (E : jE G cX12_set RX12 w_X12_set 5 (some .int) { frames := 2, cells := 0, slots := 0, locals := 43 } (rtI Z Q)) (hZ : SH Z)  (v0 : Nat) (v1 : Int32) (v2 : Int32) (v3 : Int32) (s0 : Int32) (s1 : Int32) (s2 : Int32) (I : jI) (L : jL) (kv0 : jk Z v0 12) (h : f_X12_set_b35  Z Q v0 v1 v2 v3 s0 s1 s2 I L) : jJ G 5 35 [(0, .ref v0), (1, .int v1), (2, .int v2), (3, .int v3)] [.int s2, .int s1, .int s0] Z I L 0 0 := by
  refine j_callS E [.int s0, .int s1, .int s2] [] (c_X12_in (gL G) (gD G) (gY G) s0 s1 s2 Z I L _ hZ  h) (gwS W_696 W_697 W_695 W_694) rfl fy_X12_in ⟨by decide, by decide⟩ rfl rfl (Nat.le_of_ble_eq_true rfl) ⟨Nat.zero_le _, Nat.zero_le _⟩ dX12_set_35 (fun v8 Z9 I10 L11 q12 => ?_)
  obtain ⟨rfl, r14, rfl, zr14, h⟩ := q12
  show jJ G 5 38 [(0, .ref v0), (1, .int v1), (2, .int v2), (3, .int v3)] [.int r14] Z I10 L11 0 0
  refine j_if_ne E 43 dX12_set_38 (by decide) (fun c15 => ?_) (fun c15 => ?_)
  · have h := h.1 c15
    refine j_iload_n E dX12_set_43 2 rfl ?_
    refine j_if_ne E 56 dX12_set_44 (by decide) (fun c16 => ?_) (fun c16 => ?_)
    · have h := h.1 c16
      refine j_aload_n E dX12_set_56 0 rfl ?_
      obtain ⟨b17, eb17, kb17, lb17⟩ := sh_f hZ kv0 (j := 2) (k := 14) (m := 24) rfl
      have h := h b17 eb17
      refine j_getr E 12 2 rfl rfl (by decide) (by decide) (iw iT_12) rfl rfl (tw W_742) kv0 eb17 dX12_set_57 ?_
      refine j_iload_n E dX12_set_60 1 rfl ?_
      obtain ⟨o18, h⟩ := h
      refine j_iald E kb17 (by rw [lb17]; exact o18) dX12_set_61 ?_
      refine j_sub [0, 1, 2, 3] rfl ?_
      exact m_X12_set_b62 E hZ  v0 v1 v2 v3 (I10 b17 v1.toNatClampNeg) I10 L11 kv0 h
    · have h := h.2 c16
      refine j_aload_n E dX12_set_47 0 rfl ?_
      obtain ⟨b19, eb19, kb19, lb19⟩ := sh_f hZ kv0 (j := 3) (k := 14) (m := 24) rfl
      have h := h b19 eb19
      refine j_getr E 12 3 rfl rfl (by decide) (by decide) (iw iT_12) rfl rfl (tw W_743) kv0 eb19 dX12_set_48 ?_
      refine j_iload_n E dX12_set_51 1 rfl ?_
      obtain ⟨o20, h⟩ := h
      refine j_iald E kb19 (by rw [lb19]; exact o20) dX12_set_52 ?_
      refine j_goto E 62 dX12_set_53 (by decide) ?_
      refine j_sub [0, 1, 2, 3] rfl ?_
      exact m_X12_set_b62 E hZ  v0 v1 v2 v3 (I10 b19 v1.toNatClampNeg) I10 L11 kv0 h
  · have h := h.2 c15
    refine j_iconst E (v := -1) dX12_set_41 (by decide) ?_
    exact j_ireturn E ⟨rfl, _, rfl, h⟩ (Nat.zero_le _) (Nat.zero_le _) dX12_set_42
set_option maxRecDepth 100000 in
def f_X12_set (v0 : Nat) (v1 : Int32) (v2 : Int32) (v3 : Int32) (Z : jZ) (I : jI) (L : jL) (Q : Int32 → jI → jL → Prop) : Prop := (∀ I21 : jI, I21 = jpI I v0 22 (0 : Int32) → (f_X12_isStep v0 v1 Z I21 L (fun r28 I24 L25 => ((r28 = 0 → Q (-1 : Int32) I24 L25) ∧ (¬ (r28 = 0) → (f_X12_in v2 (0 : Int32) (1 : Int32) Z I24 L25 (fun r36 I32 L33 => ((r36 = 0 → Q (-1 : Int32) I32 L33) ∧ (¬ (r36 = 0) → ((¬ v2 = 0 → f_X12_set_b35  Z Q v0 v1 v2 v3 v3 (0 : Int32) (9 : Int32) I32 L33) ∧ (v2 = 0 → f_X12_set_b35  Z Q v0 v1 v2 v3 v3 (0 : Int32) (20 : Int32) I32 L33)))))))))))
set_option maxHeartbeats 4000000 in
set_option maxRecDepth 100000 in
theorem c_X12_set (l : Launch) (D : va_G) (cy : jC) (v0 : Nat) (v1 : Int32) (v2 : Int32) (v3 : Int32) (Z : jZ) (I : jI) (L : jL) (Q : Int32 → jI → jL → Prop) (hZ : SH Z) (kv0 : jk Z v0 12) (h : f_X12_set v0 v1 v2 v3 Z I L Q) : jCt l yX12_set w_X12_set { frames := 2, cells := 0, slots := 0, locals := 43 } D cy [.ref v0, .int v1, .int v2, .int v3] Z I L (rtI Z Q) := by
  refine jCt_of (cc := cX12_set) (maxL := 5) (ret := (some .int)) (by decide +kernel) rfl (Nat.le_of_ble_eq_true rfl) ?_
  intro G eD eY eL E
  subst eD; subst eY; subst eL
  have E : jE G cX12_set RX12 w_X12_set 5 (some .int) { frames := 2, cells := 0, slots := 0, locals := 43 } (rtI Z Q) := E
  show jJ G 5 0 [(0, .ref v0), (1, .int v1), (2, .int v2), (3, .int v3)] [] Z I L 0 0
  refine j_aload_n E dX12_set_0 0 rfl ?_
  refine j_iconst E (v := 0) dX12_set_1 (by decide) ?_
  refine j_puti E 12 22 rfl rfl (by decide) (by decide) (iw iT_12) tyX12_ok nmX12 rfl rfl (tw W_690) rfl rfl rfl kv0 dX12_set_2 ?_
  refine j_nmI (fun I21 eI21 => ?_)
  have h := h I21 eI21
  refine j_aload_n E dX12_set_5 0 rfl ?_
  refine j_iload_n E dX12_set_6 1 rfl ?_
  refine j_callV E [.int v1] [] (c_X12_isStep (gL G) (gD G) (gY G) v0 v1 Z I21 L _ hZ kv0 h) (gwV W_790 W_791 W_792 W_695 W_789) rfl ⟨rfl, fy_X12_isStep⟩ ⟨by decide, by decide⟩ (c := 12) rfl (by decide) kv0 rfl rfl (Nat.le_of_ble_eq_true rfl) ⟨Nat.zero_le _, Nat.zero_le _⟩ dX12_set_7 (fun v22 Z23 I24 L25 q26 => ?_)
  obtain ⟨rfl, r28, rfl, zr28, h⟩ := q26
  show jJ G 5 10 [(0, .ref v0), (1, .int v1), (2, .int v2), (3, .int v3)] [.int r28] Z I24 L25 0 0
  refine j_if_eq E 41 dX12_set_10 (by decide) (fun c29 => ?_) (fun c29 => ?_)
  · have h := h.1 c29
    refine j_iconst E (v := -1) dX12_set_41 (by decide) ?_
    exact j_ireturn E ⟨rfl, _, rfl, h⟩ (Nat.zero_le _) (Nat.zero_le _) dX12_set_42
  · have h := h.2 c29
    refine j_iload_n E dX12_set_13 2 rfl ?_
    refine j_iconst E (v := 0) dX12_set_14 (by decide) ?_
    refine j_iconst E (v := 1) dX12_set_15 (by decide) ?_
    refine j_callS E [.int v2, .int (0 : Int32), .int (1 : Int32)] [] (c_X12_in (gL G) (gD G) (gY G) v2 (0 : Int32) (1 : Int32) Z I24 L25 _ hZ  h) (gwS W_696 W_697 W_695 W_694) rfl fy_X12_in ⟨by decide, by decide⟩ rfl rfl (Nat.le_of_ble_eq_true rfl) ⟨Nat.zero_le _, Nat.zero_le _⟩ dX12_set_16 (fun v30 Z31 I32 L33 q34 => ?_)
    obtain ⟨rfl, r36, rfl, zr36, h⟩ := q34
    show jJ G 5 19 [(0, .ref v0), (1, .int v1), (2, .int v2), (3, .int v3)] [.int r36] Z I32 L33 0 0
    refine j_if_eq E 41 dX12_set_19 (by decide) (fun c37 => ?_) (fun c37 => ?_)
    · have h := h.1 c37
      refine j_iconst E (v := -1) dX12_set_41 (by decide) ?_
      exact j_ireturn E ⟨rfl, _, rfl, h⟩ (Nat.zero_le _) (Nat.zero_le _) dX12_set_42
    · have h := h.2 c37
      refine j_iload_n E dX12_set_22 3 rfl ?_
      refine j_iconst E (v := 0) dX12_set_23 (by decide) ?_
      refine j_iload_n E dX12_set_24 2 rfl ?_
      refine j_if_ne E 33 dX12_set_25 (by decide) (fun c38 => ?_) (fun c38 => ?_)
      · have h := h.1 c38
        refine j_bipush E (v := 9) dX12_set_33 (by decide) ?_
        refine j_sub [0, 1, 2, 3] rfl ?_
        exact m_X12_set_b35 E hZ  v0 v1 v2 v3 v3 (0 : Int32) (9 : Int32) I32 L33 kv0 h
      · have h := h.2 c38
        refine j_bipush E (v := 20) dX12_set_28 (by decide) ?_
        refine j_goto E 35 dX12_set_30 (by decide) ?_
        refine j_sub [0, 1, 2, 3] rfl ?_
        exact m_X12_set_b35 E hZ  v0 v1 v2 v3 v3 (0 : Int32) (20 : Int32) I32 L33 kv0 h
set_option maxRecDepth 100000 in
def f_X12_sheet_b109 (K43 : Nat → Int32 → Int32 → Int32 → Int32 → Int32 → Int32 → jI → jL → Prop) (Z : jZ) (Q : Int32 → jI → jL → Prop) (v0 : Nat) (v1 : Int32) (v2 : Int32) (v4 : Int32) (v5 : Int32) (v6 : Int32) (v7 : Int32) (s0 : Nat) (s1 : Int32) (s2 : Int32) (I : jI) (L : jL) : Prop := (vp_in s1 (jlen Z s0) ∧ (∀ I2 : jI, I2 = jpI I s0 s1.toNatClampNeg s2 → (∀ b3 : Nat, jr Z v0 3 = some b3 → (vp_in v7 24 ∧ (∀ x5 : Int32, x5 = (v5 + (I2 b3 v7.toNatClampNeg)) → (∀ x6 : Int32, x6 = (v6 + v4) → (∀ x7 : Int32, x7 = v7 + 1 → K43 v0 v1 v2 v4 x5 x6 x7 I2 L)))))))
set_option maxHeartbeats 4000000 in
set_option maxRecDepth 100000 in
theorem m_X12_sheet_b109 {G : jG} {Z : jZ} {Q : Int32 → jI → jL → Prop} (E : jE G cX12_sheet RX12 w_X12_sheet 9 (some .int) { frames := 1, cells := 0, slots := 0, locals := 23 } (rtI Z Q)) (hZ : SH Z) (K43 : Nat → Int32 → Int32 → Int32 → Int32 → Int32 → Int32 → jI → jL → Prop) (hK43 : ∀ (v0 : Nat) (v1 : Int32) (v2 : Int32) (v4 : Int32) (v5 : Int32) (v6 : Int32) (v7 : Int32) (I : jI) (L : jL), jk Z v0 12 → K43 v0 v1 v2 v4 v5 v6 v7 I L → jJ G 9 43 [(0, .ref v0), (1, .int v1), (2, .int v2), (4, .int v4), (5, .int v5), (6, .int v6), (7, .int v7)] [] Z I L 0 0) (v0 : Nat) (v1 : Int32) (v2 : Int32) (v4 : Int32) (v5 : Int32) (v6 : Int32) (v7 : Int32) (s0 : Nat) (s1 : Int32) (s2 : Int32) (I : jI) (L : jL) (kv0 : jk Z v0 12) (ks0 : jk Z s0 14) (h : f_X12_sheet_b109 K43 Z Q v0 v1 v2 v4 v5 v6 v7 s0 s1 s2 I L) : jJ G 9 109 [(0, .ref v0), (1, .int v1), (2, .int v2), (4, .int v4), (5, .int v5), (6, .int v6), (7, .int v7)] [.int s2, .int s1, .ref s0] Z I L 0 0 := by
  obtain ⟨o1, h⟩ := h
  refine j_iast E ks0 o1 dX12_sheet_109 ?_
  refine j_nmI (fun I2 eI2 => ?_)
  have h := h I2 eI2
  refine j_iload E dX12_sheet_110 4 rfl ?_
  refine j_aload_n E dX12_sheet_112 0 rfl ?_
  obtain ⟨b3, eb3, kb3, lb3⟩ := sh_f hZ kv0 (j := 3) (k := 14) (m := 24) rfl
  have h := h b3 eb3
  refine j_getr E 12 3 rfl rfl (by decide) (by decide) (iw iT_12) rfl rfl (tw W_743) kv0 eb3 dX12_sheet_113 ?_
  refine j_iload E dX12_sheet_116 6 rfl ?_
  obtain ⟨o4, h⟩ := h
  refine j_iald E kb3 (by rw [lb3]; exact o4) dX12_sheet_118 ?_
  refine j_iadd E dX12_sheet_119 ?_
  refine j_topi (fun x5 ex5 => ?_)
  have h := h x5 ex5
  refine j_istore E 5 [(5, .int x5), (0, .ref v0), (1, .int v1), (2, .int v2), (4, .int v4), (6, .int v6), (7, .int v7)] dX12_sheet_120 (by decide) rfl ?_
  refine j_iload E dX12_sheet_122 5 rfl ?_
  refine j_iload E dX12_sheet_124 4 rfl ?_
  refine j_iadd E dX12_sheet_126 ?_
  refine j_topi (fun x6 ex6 => ?_)
  have h := h x6 ex6
  refine j_istore E 6 [(6, .int x6), (5, .int x5), (0, .ref v0), (1, .int v1), (2, .int v2), (4, .int v4), (7, .int v7)] dX12_sheet_127 (by decide) rfl ?_
  obtain ⟨x7, ex7⟩ : ∃ y : Int32, y = v7 + 1 := ⟨_, rfl⟩
  have h := h x7 ex7
  refine j_iinc E x7 [(7, .int x7), (6, .int x6), (5, .int x5), (0, .ref v0), (1, .int v1), (2, .int v2), (4, .int v4)] dX12_sheet_129 6 rfl (by rw [ex7]; rfl) (by decide) rfl ?_
  refine j_goto E 43 dX12_sheet_132 (by decide) ?_
  refine j_sub [3, 4, 5, 6, 2, 1, 0] rfl ?_
  exact hK43 v0 v1 v2 v4 x5 x6 x7 I2 L kv0 h
set_option maxRecDepth 100000 in
def f_X12_sheet_b94 (K43 : Nat → Int32 → Int32 → Int32 → Int32 → Int32 → Int32 → jI → jL → Prop) (Z : jZ) (Q : Int32 → jI → jL → Prop) (v0 : Nat) (v1 : Int32) (v2 : Int32) (v4 : Int32) (v5 : Int32) (v6 : Int32) (v7 : Int32) (s0 : Nat) (s1 : Int32) (I : jI) (L : jL) : Prop := f_X12_sheet_b109 K43 Z Q v0 v1 v2 v4 v5 v6 v7 s0 s1 (0 : Int32) I L
set_option maxHeartbeats 4000000 in
set_option maxRecDepth 100000 in
theorem m_X12_sheet_b94 {G : jG} {Z : jZ} {Q : Int32 → jI → jL → Prop} (E : jE G cX12_sheet RX12 w_X12_sheet 9 (some .int) { frames := 1, cells := 0, slots := 0, locals := 23 } (rtI Z Q)) (hZ : SH Z) (K43 : Nat → Int32 → Int32 → Int32 → Int32 → Int32 → Int32 → jI → jL → Prop) (hK43 : ∀ (v0 : Nat) (v1 : Int32) (v2 : Int32) (v4 : Int32) (v5 : Int32) (v6 : Int32) (v7 : Int32) (I : jI) (L : jL), jk Z v0 12 → K43 v0 v1 v2 v4 v5 v6 v7 I L → jJ G 9 43 [(0, .ref v0), (1, .int v1), (2, .int v2), (4, .int v4), (5, .int v5), (6, .int v6), (7, .int v7)] [] Z I L 0 0) (v0 : Nat) (v1 : Int32) (v2 : Int32) (v4 : Int32) (v5 : Int32) (v6 : Int32) (v7 : Int32) (s0 : Nat) (s1 : Int32) (I : jI) (L : jL) (kv0 : jk Z v0 12) (ks0 : jk Z s0 14) (h : f_X12_sheet_b94 K43 Z Q v0 v1 v2 v4 v5 v6 v7 s0 s1 I L) : jJ G 9 94 [(0, .ref v0), (1, .int v1), (2, .int v2), (4, .int v4), (5, .int v5), (6, .int v6), (7, .int v7)] [.int s1, .ref s0] Z I L 0 0 := by
  refine j_iconst E (v := 0) dX12_sheet_94 (by decide) ?_
  refine j_goto E 109 dX12_sheet_95 (by decide) ?_
  refine j_sub [0, 1, 2, 3, 4, 5, 6] rfl ?_
  exact m_X12_sheet_b109 E hZ K43 hK43 v0 v1 v2 v4 v5 v6 v7 s0 s1 (0 : Int32) I L kv0 ks0 h
set_option maxRecDepth 100000 in
def f_X12_sheet_b75 (K43 : Nat → Int32 → Int32 → Int32 → Int32 → Int32 → Int32 → jI → jL → Prop) (Z : jZ) (Q : Int32 → jI → jL → Prop) (v0 : Nat) (v1 : Int32) (v2 : Int32) (v4 : Int32) (v5 : Int32) (v6 : Int32) (v7 : Int32) (s0 : Int32) (I : jI) (L : jL) : Prop := (∀ b8 : Nat, jr Z v0 3 = some b8 → ((v1 = (3 : Int32) → f_X12_sheet_b94 K43 Z Q v0 v1 v2 v4 v5 v6 v7 b8 v7 I L) ∧ (¬ (v1 = (3 : Int32)) → ((v7 < v2 → f_X12_sheet_b109 K43 Z Q v0 v1 v2 v4 v5 v6 v7 b8 v7 (if (0 : Int32) < (if s0 < (20 : Int32) then s0 else (20 : Int32)) then (if s0 < (20 : Int32) then s0 else (20 : Int32)) else (0 : Int32)) I L) ∧ (¬ (v7 < v2) → f_X12_sheet_b94 K43 Z Q v0 v1 v2 v4 v5 v6 v7 b8 v7 I L)))))
set_option maxHeartbeats 4000000 in
set_option maxRecDepth 100000 in
theorem m_X12_sheet_b75 {G : jG} {Z : jZ} {Q : Int32 → jI → jL → Prop} (E : jE G cX12_sheet RX12 w_X12_sheet 9 (some .int) { frames := 1, cells := 0, slots := 0, locals := 23 } (rtI Z Q)) (hZ : SH Z) (K43 : Nat → Int32 → Int32 → Int32 → Int32 → Int32 → Int32 → jI → jL → Prop) (hK43 : ∀ (v0 : Nat) (v1 : Int32) (v2 : Int32) (v4 : Int32) (v5 : Int32) (v6 : Int32) (v7 : Int32) (I : jI) (L : jL), jk Z v0 12 → K43 v0 v1 v2 v4 v5 v6 v7 I L → jJ G 9 43 [(0, .ref v0), (1, .int v1), (2, .int v2), (4, .int v4), (5, .int v5), (6, .int v6), (7, .int v7)] [] Z I L 0 0) (v0 : Nat) (v1 : Int32) (v2 : Int32) (v4 : Int32) (v5 : Int32) (v6 : Int32) (v7 : Int32) (s0 : Int32) (I : jI) (L : jL) (kv0 : jk Z v0 12) (h : f_X12_sheet_b75 K43 Z Q v0 v1 v2 v4 v5 v6 v7 s0 I L) : jJ G 9 75 [(0, .ref v0), (1, .int v1), (2, .int v2), (4, .int v4), (5, .int v5), (6, .int v6), (7, .int v7)] [.int s0] Z I L 0 0 := by
  refine j_istore E 8 [(8, .int s0), (0, .ref v0), (1, .int v1), (2, .int v2), (4, .int v4), (5, .int v5), (6, .int v6), (7, .int v7)] dX12_sheet_75 (by decide) rfl ?_
  refine j_aload_n E dX12_sheet_77 1 rfl ?_
  obtain ⟨b8, eb8, kb8, lb8⟩ := sh_f hZ kv0 (j := 3) (k := 14) (m := 24) rfl
  have h := h b8 eb8
  refine j_getr E 12 3 rfl rfl (by decide) (by decide) (iw iT_12) rfl rfl (tw W_743) kv0 eb8 dX12_sheet_78 ?_
  refine j_iload E dX12_sheet_81 7 rfl ?_
  refine j_iload_n E dX12_sheet_83 2 rfl ?_
  refine j_iconst E (v := 3) dX12_sheet_84 (by decide) ?_
  refine j_icmp_eq E 94 dX12_sheet_85 (by decide) (fun c9 => ?_) (fun c9 => ?_)
  · have h := h.1 c9
    refine j_sub [1, 2, 3, 4, 5, 6, 7] rfl ?_
    exact m_X12_sheet_b94 E hZ K43 hK43 v0 v1 v2 v4 v5 v6 v7 b8 v7 I L kv0 kb8 h
  · have h := h.2 c9
    refine j_iload E dX12_sheet_88 7 rfl ?_
    refine j_iload_n E dX12_sheet_90 3 rfl ?_
    refine j_icmp_lt E 98 dX12_sheet_91 (by decide) (fun c10 => ?_) (fun c10 => ?_)
    · have h := h.1 c10
      refine j_iconst E (v := 0) dX12_sheet_98 (by decide) ?_
      refine j_bipush E (v := 20) dX12_sheet_99 (by decide) ?_
      refine j_iload E dX12_sheet_101 0 rfl ?_
      refine j_min E (tw W_783) (tw W_7) (tw W_8) (tw W_9) (Nat.le_of_ble_eq_true rfl) (Nat.le_of_ble_eq_true rfl) (Nat.zero_le _) (Nat.zero_le _) dX12_sheet_103 ?_
      refine j_max E (tw W_784) (tw W_147) (tw W_8) (tw W_148) (Nat.le_of_ble_eq_true rfl) (Nat.le_of_ble_eq_true rfl) (Nat.zero_le _) (Nat.zero_le _) dX12_sheet_106 ?_
      refine j_sub [1, 2, 3, 4, 5, 6, 7] rfl ?_
      exact m_X12_sheet_b109 E hZ K43 hK43 v0 v1 v2 v4 v5 v6 v7 b8 v7 (if (0 : Int32) < (if s0 < (20 : Int32) then s0 else (20 : Int32)) then (if s0 < (20 : Int32) then s0 else (20 : Int32)) else (0 : Int32)) I L kv0 kb8 h
    · have h := h.2 c10
      refine j_sub [1, 2, 3, 4, 5, 6, 7] rfl ?_
      exact m_X12_sheet_b94 E hZ K43 hK43 v0 v1 v2 v4 v5 v6 v7 b8 v7 I L kv0 kb8 h
set_option maxRecDepth 100000 in
def f_X12_sheet_L43  (Z : jZ) (Q : Int32 → jI → jL → Prop) : Nat → Nat → Int32 → Int32 → Int32 → Int32 → Int32 → Int32 → jI → jL → Prop
  | 0 => fun _ _ _ _ _ _ _ _ _ => False
  | n + 1 => fun v0 v1 v2 v4 v5 v6 v7 I L => (((I v0 0) ≤ v7 → ((¬ v1 = (3 : Int32) → Q v5 I L) ∧ (v1 = (3 : Int32) → Q (-3 : Int32) I L))) ∧ (¬ ((I v0 0) ≤ v7) → ((¬ v1 = 0 → ((¬ v1 = (1 : Int32) → f_X12_sheet_b75 (f_X12_sheet_L43 Z Q n) Z Q v0 v1 v2 v4 v5 v6 v7 v6 I L) ∧ (v1 = (1 : Int32) → f_X12_sheet_b75 (f_X12_sheet_L43 Z Q n) Z Q v0 v1 v2 v4 v5 v6 v7 (v6.toInt16.toInt32) I L))) ∧ (v1 = 0 → f_X12_sheet_b75 (f_X12_sheet_L43 Z Q n) Z Q v0 v1 v2 v4 v5 v6 v7 (v6.toInt8.toInt32) I L))))
set_option maxHeartbeats 4000000 in
set_option maxRecDepth 100000 in
theorem m_X12_sheet_L43 {G : jG} {Z : jZ} {Q : Int32 → jI → jL → Prop} (E : jE G cX12_sheet RX12 w_X12_sheet 9 (some .int) { frames := 1, cells := 0, slots := 0, locals := 23 } (rtI Z Q)) (hZ : SH Z)  : ∀ (n : Nat) (v0 : Nat) (v1 : Int32) (v2 : Int32) (v4 : Int32) (v5 : Int32) (v6 : Int32) (v7 : Int32) (I : jI) (L : jL), jk Z v0 12 → f_X12_sheet_L43  Z Q n v0 v1 v2 v4 v5 v6 v7 I L → jJ G 9 43 [(0, .ref v0), (1, .int v1), (2, .int v2), (4, .int v4), (5, .int v5), (6, .int v6), (7, .int v7)] [] Z I L 0 0 := by
  intro n
  induction n with
  | zero => intro v0 v1 v2 v4 v5 v6 v7 I L _ h; exact h.elim
  | succ n ih =>
    intro v0 v1 v2 v4 v5 v6 v7 I L kv0 h
    have h : (((I v0 0) ≤ v7 → ((¬ v1 = (3 : Int32) → Q v5 I L) ∧ (v1 = (3 : Int32) → Q (-3 : Int32) I L))) ∧ (¬ ((I v0 0) ≤ v7) → ((¬ v1 = 0 → ((¬ v1 = (1 : Int32) → f_X12_sheet_b75 (f_X12_sheet_L43 Z Q n) Z Q v0 v1 v2 v4 v5 v6 v7 v6 I L) ∧ (v1 = (1 : Int32) → f_X12_sheet_b75 (f_X12_sheet_L43 Z Q n) Z Q v0 v1 v2 v4 v5 v6 v7 (v6.toInt16.toInt32) I L))) ∧ (v1 = 0 → f_X12_sheet_b75 (f_X12_sheet_L43 Z Q n) Z Q v0 v1 v2 v4 v5 v6 v7 (v6.toInt8.toInt32) I L)))) := h
    obtain ⟨K43, eK43⟩ : ∃ K : Nat → Int32 → Int32 → Int32 → Int32 → Int32 → Int32 → jI → jL → Prop, K = f_X12_sheet_L43  Z Q n := ⟨_, rfl⟩
    have hK43 := ih
    clear eK43 K43
    generalize f_X12_sheet_L43  Z Q n = K43 at hK43 h
    refine j_iload E dX12_sheet_43 6 rfl ?_
    refine j_aload_n E dX12_sheet_45 0 rfl ?_
    refine j_geti E 12 0 rfl rfl (by decide) (by decide) (iw iT_12) rfl rfl (tw W_693) kv0 dX12_sheet_46 ?_
    refine j_icmp_ge E 135 dX12_sheet_49 (by decide) (fun c11 => ?_) (fun c11 => ?_)
    · have h := h.1 c11
      refine j_iload_n E dX12_sheet_135 1 rfl ?_
      refine j_iconst E (v := 3) dX12_sheet_136 (by decide) ?_
      refine j_icmp_ne E 145 dX12_sheet_137 (by decide) (fun c12 => ?_) (fun c12 => ?_)
      · have h := h.1 c12
        refine j_iload E dX12_sheet_145 4 rfl ?_
        exact j_ireturn E ⟨rfl, _, rfl, h⟩ (Nat.zero_le _) (Nat.zero_le _) dX12_sheet_147
      · have h := h.2 c12
        refine j_bipush E (v := -3) dX12_sheet_140 (by decide) ?_
        refine j_goto E 147 dX12_sheet_142 (by decide) ?_
        exact j_ireturn E ⟨rfl, _, rfl, h⟩ (Nat.zero_le _) (Nat.zero_le _) dX12_sheet_147
    · have h := h.2 c11
      refine j_iload_n E dX12_sheet_52 1 rfl ?_
      refine j_if_ne E 62 dX12_sheet_53 (by decide) (fun c13 => ?_) (fun c13 => ?_)
      · have h := h.1 c13
        refine j_iload_n E dX12_sheet_62 1 rfl ?_
        refine j_iconst E (v := 1) dX12_sheet_63 (by decide) ?_
        refine j_icmp_ne E 73 dX12_sheet_64 (by decide) (fun c14 => ?_) (fun c14 => ?_)
        · have h := h.1 c14
          refine j_iload E dX12_sheet_73 5 rfl ?_
          refine j_sub [0, 1, 2, 3, 4, 5, 6] rfl ?_
          exact m_X12_sheet_b75 E hZ K43 hK43 v0 v1 v2 v4 v5 v6 v7 v6 I L kv0 h
        · have h := h.2 c14
          refine j_iload E dX12_sheet_67 5 rfl ?_
          refine j_i2s E dX12_sheet_69 ?_
          refine j_goto E 75 dX12_sheet_70 (by decide) ?_
          refine j_sub [0, 1, 2, 3, 4, 5, 6] rfl ?_
          exact m_X12_sheet_b75 E hZ K43 hK43 v0 v1 v2 v4 v5 v6 v7 (v6.toInt16.toInt32) I L kv0 h
      · have h := h.2 c13
        refine j_iload E dX12_sheet_56 5 rfl ?_
        refine j_i2b E dX12_sheet_58 ?_
        refine j_goto E 75 dX12_sheet_59 (by decide) ?_
        refine j_sub [0, 1, 2, 3, 4, 5, 6] rfl ?_
        exact m_X12_sheet_b75 E hZ K43 hK43 v0 v1 v2 v4 v5 v6 v7 (v6.toInt8.toInt32) I L kv0 h
set_option maxRecDepth 100000 in
def f_X12_sheet_b34  (Z : jZ) (Q : Int32 → jI → jL → Prop) (v0 : Nat) (v1 : Int32) (v2 : Int32) (v3 : Int32) (v4 : Int32) (I : jI) (L : jL) : Prop := (∃ m43 : Nat, f_X12_sheet_L43  Z Q m43 v0 v1 v2 v4 (0 : Int32) v3 (0 : Int32) I L)
set_option maxHeartbeats 4000000 in
set_option maxRecDepth 100000 in
theorem m_X12_sheet_b34 {G : jG} {Z : jZ} {Q : Int32 → jI → jL → Prop} (E : jE G cX12_sheet RX12 w_X12_sheet 9 (some .int) { frames := 1, cells := 0, slots := 0, locals := 23 } (rtI Z Q)) (hZ : SH Z)  (v0 : Nat) (v1 : Int32) (v2 : Int32) (v3 : Int32) (v4 : Int32) (I : jI) (L : jL) (kv0 : jk Z v0 12) (h : f_X12_sheet_b34  Z Q v0 v1 v2 v3 v4 I L) : jJ G 9 34 [(0, .ref v0), (1, .int v1), (2, .int v2), (3, .int v3), (4, .int v4)] [] Z I L 0 0 := by
  refine j_iconst E (v := 0) dX12_sheet_34 (by decide) ?_
  refine j_istore E 5 [(5, .int (0 : Int32)), (0, .ref v0), (1, .int v1), (2, .int v2), (3, .int v3), (4, .int v4)] dX12_sheet_35 (by decide) rfl ?_
  refine j_iload_n E dX12_sheet_37 4 rfl ?_
  refine j_istore E 6 [(6, .int v3), (5, .int (0 : Int32)), (0, .ref v0), (1, .int v1), (2, .int v2), (3, .int v3), (4, .int v4)] dX12_sheet_38 (by decide) rfl ?_
  refine j_iconst E (v := 0) dX12_sheet_40 (by decide) ?_
  refine j_istore E 7 [(7, .int (0 : Int32)), (6, .int v3), (5, .int (0 : Int32)), (0, .ref v0), (1, .int v1), (2, .int v2), (3, .int v3), (4, .int v4)] dX12_sheet_41 (by decide) rfl ?_
  obtain ⟨n15, h⟩ := h
  refine j_sub [3, 4, 5, 7, 2, 1, 0] rfl ?_
  exact m_X12_sheet_L43 E hZ  n15 v0 v1 v2 v4 (0 : Int32) v3 (0 : Int32) I L kv0 h
set_option maxRecDepth 100000 in
def f_X12_sheet (v0 : Nat) (v1 : Int32) (v2 : Int32) (v3 : Int32) (v4 : Int32) (Z : jZ) (I : jI) (L : jL) (Q : Int32 → jI → jL → Prop) : Prop := (∀ I16 : jI, I16 = jpI I v0 22 (0 : Int32) → (f_X12_in v1 (0 : Int32) (3 : Int32) Z I16 L (fun r23 I19 L20 => ((r23 = 0 → Q (-1 : Int32) I19 L20) ∧ (¬ (r23 = 0) → ((v2 ≤ (24 : Int32) → (((3 : Int32) ≤ v1 → f_X12_sheet_b34  Z Q v0 v1 v2 v3 v4 I19 L20) ∧ (¬ ((3 : Int32) ≤ v1) → ((0 ≤ v2 → f_X12_sheet_b34  Z Q v0 v1 v2 v3 v4 I19 L20) ∧ (¬ (0 ≤ v2) → Q (-2 : Int32) I19 L20))))) ∧ (¬ (v2 ≤ (24 : Int32)) → Q (-1 : Int32) I19 L20)))))))
set_option maxHeartbeats 4000000 in
set_option maxRecDepth 100000 in
theorem c_X12_sheet (l : Launch) (D : va_G) (cy : jC) (v0 : Nat) (v1 : Int32) (v2 : Int32) (v3 : Int32) (v4 : Int32) (Z : jZ) (I : jI) (L : jL) (Q : Int32 → jI → jL → Prop) (hZ : SH Z) (kv0 : jk Z v0 12) (h : f_X12_sheet v0 v1 v2 v3 v4 Z I L Q) : jCt l yX12_sheet w_X12_sheet { frames := 1, cells := 0, slots := 0, locals := 23 } D cy [.ref v0, .int v1, .int v2, .int v3, .int v4] Z I L (rtI Z Q) := by
  refine jCt_of (cc := cX12_sheet) (maxL := 9) (ret := (some .int)) (by decide +kernel) rfl (Nat.le_of_ble_eq_true rfl) ?_
  intro G eD eY eL E
  subst eD; subst eY; subst eL
  have E : jE G cX12_sheet RX12 w_X12_sheet 9 (some .int) { frames := 1, cells := 0, slots := 0, locals := 23 } (rtI Z Q) := E
  show jJ G 9 0 [(0, .ref v0), (1, .int v1), (2, .int v2), (3, .int v3), (4, .int v4)] [] Z I L 0 0
  refine j_aload_n E dX12_sheet_0 0 rfl ?_
  refine j_iconst E (v := 0) dX12_sheet_1 (by decide) ?_
  refine j_puti E 12 22 rfl rfl (by decide) (by decide) (iw iT_12) tyX12_ok nmX12 rfl rfl (tw W_690) rfl rfl rfl kv0 dX12_sheet_2 ?_
  refine j_nmI (fun I16 eI16 => ?_)
  have h := h I16 eI16
  refine j_iload_n E dX12_sheet_5 1 rfl ?_
  refine j_iconst E (v := 0) dX12_sheet_6 (by decide) ?_
  refine j_iconst E (v := 3) dX12_sheet_7 (by decide) ?_
  refine j_callS E [.int v1, .int (0 : Int32), .int (3 : Int32)] [] (c_X12_in (gL G) (gD G) (gY G) v1 (0 : Int32) (3 : Int32) Z I16 L _ hZ  h) (gwS W_696 W_697 W_695 W_694) rfl fy_X12_in ⟨by decide, by decide⟩ rfl rfl (Nat.le_of_ble_eq_true rfl) ⟨Nat.zero_le _, Nat.zero_le _⟩ dX12_sheet_8 (fun v17 Z18 I19 L20 q21 => ?_)
  obtain ⟨rfl, r23, rfl, zr23, h⟩ := q21
  show jJ G 9 11 [(0, .ref v0), (1, .int v1), (2, .int v2), (3, .int v3), (4, .int v4)] [.int r23] Z I19 L20 0 0
  refine j_if_eq E 20 dX12_sheet_11 (by decide) (fun c24 => ?_) (fun c24 => ?_)
  · have h := h.1 c24
    refine j_iconst E (v := -1) dX12_sheet_20 (by decide) ?_
    exact j_ireturn E ⟨rfl, _, rfl, h⟩ (Nat.zero_le _) (Nat.zero_le _) dX12_sheet_21
  · have h := h.2 c24
    refine j_iload_n E dX12_sheet_14 2 rfl ?_
    refine j_bipush E (v := 24) dX12_sheet_15 (by decide) ?_
    refine j_icmp_le E 22 dX12_sheet_17 (by decide) (fun c25 => ?_) (fun c25 => ?_)
    · have h := h.1 c25
      refine j_iload_n E dX12_sheet_22 1 rfl ?_
      refine j_iconst E (v := 3) dX12_sheet_23 (by decide) ?_
      refine j_icmp_ge E 34 dX12_sheet_24 (by decide) (fun c26 => ?_) (fun c26 => ?_)
      · have h := h.1 c26
        refine j_sub [0, 1, 2, 3, 4] rfl ?_
        exact m_X12_sheet_b34 E hZ  v0 v1 v2 v3 v4 I19 L20 kv0 h
      · have h := h.2 c26
        refine j_iload_n E dX12_sheet_27 2 rfl ?_
        refine j_if_ge E 34 dX12_sheet_28 (by decide) (fun c27 => ?_) (fun c27 => ?_)
        · have h := h.1 c27
          refine j_sub [0, 1, 2, 3, 4] rfl ?_
          exact m_X12_sheet_b34 E hZ  v0 v1 v2 v3 v4 I19 L20 kv0 h
        · have h := h.2 c27
          refine j_bipush E (v := -2) dX12_sheet_31 (by decide) ?_
          exact j_ireturn E ⟨rfl, _, rfl, h⟩ (Nat.zero_le _) (Nat.zero_le _) dX12_sheet_33
    · have h := h.2 c25
      refine j_iconst E (v := -1) dX12_sheet_20 (by decide) ?_
      exact j_ireturn E ⟨rfl, _, rfl, h⟩ (Nat.zero_le _) (Nat.zero_le _) dX12_sheet_21
set_option maxRecDepth 100000 in
def f_X12_setFeud (v0 : Nat) (v1 : Int32) (v2 : Int32) (v3 : Int32) (Z : jZ) (I : jI) (L : jL) (Q : jI → jL → Prop) : Prop := (∀ b1 : Nat, jr Z v0 6 = some b1 → (vp_in (((8 : Int32) * v1) + v2) 64 ∧ (∀ I3 : jI, I3 = jpI I b1 (((8 : Int32) * v1) + v2).toNatClampNeg (vp_nar .boolean v3) → (∀ b4 : Nat, jr Z v0 6 = some b4 → (vp_in (((8 : Int32) * v2) + v1) 64 ∧ (∀ I6 : jI, I6 = jpI I3 b4 (((8 : Int32) * v2) + v1).toNatClampNeg (vp_nar .boolean v3) → Q I6 L))))))
set_option maxHeartbeats 4000000 in
set_option maxRecDepth 100000 in
theorem c_X12_setFeud (l : Launch) (D : va_G) (cy : jC) (v0 : Nat) (v1 : Int32) (v2 : Int32) (v3 : Int32) (Z : jZ) (I : jI) (L : jL) (Q : jI → jL → Prop) (hZ : SH Z) (kv0 : jk Z v0 12) (h : f_X12_setFeud v0 v1 v2 v3 Z I L Q) : jCt l yX12_setFeud w_X12_setFeud { frames := 0, cells := 0, slots := 0, locals := 0 } D cy [.ref v0, .int v1, .int v2, .int v3] Z I L (rtV Z Q) := by
  refine jCt_of (cc := cX12_setFeud) (maxL := 4) (ret := none) (by decide +kernel) rfl (Nat.le_of_ble_eq_true rfl) ?_
  intro G eD eY eL E
  subst eD; subst eY; subst eL
  have E : jE G cX12_setFeud RX12 w_X12_setFeud 4 none { frames := 0, cells := 0, slots := 0, locals := 0 } (rtV Z Q) := E
  show jJ G 4 0 [(0, .ref v0), (1, .int v1), (2, .int v2), (3, .int v3)] [] Z I L 0 0
  refine j_aload_n E dX12_setFeud_0 0 rfl ?_
  obtain ⟨b1, eb1, kb1, lb1⟩ := sh_f hZ kv0 (j := 6) (k := 16) (m := 64) rfl
  have h := h b1 eb1
  refine j_getr E 12 6 rfl rfl (by decide) (by decide) (iw iT_12) rfl rfl (tw W_755) kv0 eb1 dX12_setFeud_1 ?_
  refine j_bipush E (v := 8) dX12_setFeud_4 (by decide) ?_
  refine j_iload_n E dX12_setFeud_6 1 rfl ?_
  refine j_imul E dX12_setFeud_7 ?_
  refine j_iload_n E dX12_setFeud_8 2 rfl ?_
  refine j_iadd E dX12_setFeud_9 ?_
  refine j_iload_n E dX12_setFeud_10 3 rfl ?_
  obtain ⟨o2, h⟩ := h
  refine j_zast E kb1 (by rw [lb1]; exact o2) dX12_setFeud_11 ?_
  refine j_nmI (fun I3 eI3 => ?_)
  have h := h I3 eI3
  refine j_aload_n E dX12_setFeud_12 0 rfl ?_
  obtain ⟨b4, eb4, kb4, lb4⟩ := sh_f hZ kv0 (j := 6) (k := 16) (m := 64) rfl
  have h := h b4 eb4
  refine j_getr E 12 6 rfl rfl (by decide) (by decide) (iw iT_12) rfl rfl (tw W_755) kv0 eb4 dX12_setFeud_13 ?_
  refine j_bipush E (v := 8) dX12_setFeud_16 (by decide) ?_
  refine j_iload_n E dX12_setFeud_18 2 rfl ?_
  refine j_imul E dX12_setFeud_19 ?_
  refine j_iload_n E dX12_setFeud_20 1 rfl ?_
  refine j_iadd E dX12_setFeud_21 ?_
  refine j_iload_n E dX12_setFeud_22 3 rfl ?_
  obtain ⟨o5, h⟩ := h
  refine j_zast E kb4 (by rw [lb4]; exact o5) dX12_setFeud_23 ?_
  refine j_nmI (fun I6 eI6 => ?_)
  have h := h I6 eI6
  exact j_return E ⟨rfl, rfl, h⟩ (Nat.zero_le _) (Nat.zero_le _) dX12_setFeud_24
set_option maxRecDepth 100000 in
def f_X12_feud (v0 : Nat) (v1 : Int32) (v2 : Int32) (v3 : Int32) (Z : jZ) (I : jI) (L : jL) (Q : Int32 → jI → jL → Prop) : Prop := (∀ I1 : jI, I1 = jpI I v0 22 (0 : Int32) → (f_X12_isFamily v1 Z I1 L (fun r8 I4 L5 => ((r8 = 0 → Q (0 : Int32) I4 L5) ∧ (¬ (r8 = 0) → (f_X12_isFamily v2 Z I4 L5 (fun r16 I12 L13 => ((r16 = 0 → Q (0 : Int32) I12 L13) ∧ (¬ (r16 = 0) → ((¬ v1 = v2 → (f_X12_setFeud v0 v1 v2 v3 Z I12 L13 (fun I21 L22 => Q (1 : Int32) I21 L22))) ∧ (v1 = v2 → Q (0 : Int32) I12 L13)))))))))))
set_option maxHeartbeats 4000000 in
set_option maxRecDepth 100000 in
theorem c_X12_feud (l : Launch) (D : va_G) (cy : jC) (v0 : Nat) (v1 : Int32) (v2 : Int32) (v3 : Int32) (Z : jZ) (I : jI) (L : jL) (Q : Int32 → jI → jL → Prop) (hZ : SH Z) (kv0 : jk Z v0 12) (h : f_X12_feud v0 v1 v2 v3 Z I L Q) : jCt l yX12_feud w_X12_feud { frames := 2, cells := 0, slots := 0, locals := 42 } D cy [.ref v0, .int v1, .int v2, .int v3] Z I L (rtZ Z Q) := by
  refine jCt_of (cc := cX12_feud) (maxL := 4) (ret := (some .boolean)) (by decide +kernel) rfl (Nat.le_of_ble_eq_true rfl) ?_
  intro G eD eY eL E
  subst eD; subst eY; subst eL
  have E : jE G cX12_feud RX12 w_X12_feud 4 (some .boolean) { frames := 2, cells := 0, slots := 0, locals := 42 } (rtZ Z Q) := E
  show jJ G 4 0 [(0, .ref v0), (1, .int v1), (2, .int v2), (3, .int v3)] [] Z I L 0 0
  refine j_aload_n E dX12_feud_0 0 rfl ?_
  refine j_iconst E (v := 0) dX12_feud_1 (by decide) ?_
  refine j_puti E 12 22 rfl rfl (by decide) (by decide) (iw iT_12) tyX12_ok nmX12 rfl rfl (tw W_690) rfl rfl rfl kv0 dX12_feud_2 ?_
  refine j_nmI (fun I1 eI1 => ?_)
  have h := h I1 eI1
  refine j_iload_n E dX12_feud_5 1 rfl ?_
  refine j_callS E [.int v1] [] (c_X12_isFamily (gL G) (gD G) (gY G) v1 Z I1 L _ hZ  h) (gwS W_794 W_795 W_695 W_793) rfl fy_X12_isFamily ⟨by decide, by decide⟩ rfl rfl (Nat.le_of_ble_eq_true rfl) ⟨Nat.zero_le _, Nat.zero_le _⟩ dX12_feud_6 (fun v2 Z3 I4 L5 q6 => ?_)
  obtain ⟨rfl, r8, rfl, zr8, h⟩ := q6
  show jJ G 4 9 [(0, .ref v0), (1, .int v1), (2, .int v2), (3, .int v3)] [.int r8] Z I4 L5 0 0
  refine j_if_eq E 24 dX12_feud_9 (by decide) (fun c9 => ?_) (fun c9 => ?_)
  · have h := h.1 c9
    refine j_iconst E (v := 0) dX12_feud_24 (by decide) ?_
    exact j_zreturn E (Or.inl rfl) ⟨rfl, _, rfl, (Or.inl rfl), h⟩ (Nat.zero_le _) (Nat.zero_le _) dX12_feud_25
  · have h := h.2 c9
    refine j_iload_n E dX12_feud_12 2 rfl ?_
    refine j_callS E [.int v2] [] (c_X12_isFamily (gL G) (gD G) (gY G) v2 Z I4 L5 _ hZ  h) (gwS W_794 W_795 W_695 W_793) rfl fy_X12_isFamily ⟨by decide, by decide⟩ rfl rfl (Nat.le_of_ble_eq_true rfl) ⟨Nat.zero_le _, Nat.zero_le _⟩ dX12_feud_13 (fun v10 Z11 I12 L13 q14 => ?_)
    obtain ⟨rfl, r16, rfl, zr16, h⟩ := q14
    show jJ G 4 16 [(0, .ref v0), (1, .int v1), (2, .int v2), (3, .int v3)] [.int r16] Z I12 L13 0 0
    refine j_if_eq E 24 dX12_feud_16 (by decide) (fun c17 => ?_) (fun c17 => ?_)
    · have h := h.1 c17
      refine j_iconst E (v := 0) dX12_feud_24 (by decide) ?_
      exact j_zreturn E (Or.inl rfl) ⟨rfl, _, rfl, (Or.inl rfl), h⟩ (Nat.zero_le _) (Nat.zero_le _) dX12_feud_25
    · have h := h.2 c17
      refine j_iload_n E dX12_feud_19 1 rfl ?_
      refine j_iload_n E dX12_feud_20 2 rfl ?_
      refine j_icmp_ne E 26 dX12_feud_21 (by decide) (fun c18 => ?_) (fun c18 => ?_)
      · have h := h.1 c18
        refine j_aload_n E dX12_feud_26 0 rfl ?_
        refine j_iload_n E dX12_feud_27 1 rfl ?_
        refine j_iload_n E dX12_feud_28 2 rfl ?_
        refine j_iload_n E dX12_feud_29 3 rfl ?_
        refine j_callV E [.int v1, .int v2, .int v3] [] (c_X12_setFeud (gL G) (gD G) (gY G) v0 v1 v2 v3 Z I12 L13 _ hZ kv0 h) (gwV W_797 W_798 W_799 W_695 W_796) rfl ⟨rfl, fy_X12_setFeud⟩ ⟨by decide, by decide⟩ (c := 12) rfl (by decide) kv0 rfl rfl (Nat.le_of_ble_eq_true rfl) ⟨Nat.zero_le _, Nat.zero_le _⟩ dX12_feud_30 (fun v19 Z20 I21 L22 q23 => ?_)
        obtain ⟨rfl, rfl, h⟩ := q23
        show jJ G 4 33 [(0, .ref v0), (1, .int v1), (2, .int v2), (3, .int v3)] [] Z I21 L22 0 0
        refine j_iconst E (v := 1) dX12_feud_33 (by decide) ?_
        exact j_zreturn E (Or.inr rfl) ⟨rfl, _, rfl, (Or.inr rfl), h⟩ (Nat.zero_le _) (Nat.zero_le _) dX12_feud_34
      · have h := h.2 c18
        refine j_iconst E (v := 0) dX12_feud_24 (by decide) ?_
        exact j_zreturn E (Or.inl rfl) ⟨rfl, _, rfl, (Or.inl rfl), h⟩ (Nat.zero_le _) (Nat.zero_le _) dX12_feud_25
set_option maxRecDepth 100000 in
def f_X12_wears_L21  (Z : jZ) (Q : Int32 → jI → jL → Prop) : Nat → Nat → Int32 → Int32 → Int32 → jI → jL → Prop
  | 0 => fun _ _ _ _ _ _ => False
  | n + 1 => fun v0 v1 v2 v3 I L => (((I v0 0) ≤ v3 → Q v2 I L) ∧ (¬ ((I v0 0) ≤ v3) → (∀ b2 : Nat, jr Z v0 2 = some b2 → (∀ b3 : Nat, jr Z v0 2 = some b3 → (vp_in v3 24 ∧ (vp_in v3 24 ∧ (∀ I6 : jI, I6 = jpI I b2 v3.toNatClampNeg (if (0 : Int32) < ((I b3 v3.toNatClampNeg) - v1) then ((I b3 v3.toNatClampNeg) - v1) else (0 : Int32)) → (∀ b7 : Nat, jr Z v0 2 = some b7 → (vp_in v3 24 ∧ (∀ x9 : Int32, x9 = (v2 + (I6 b7 v3.toNatClampNeg)) → (∀ x10 : Int32, x10 = v3 + 1 → (f_X12_wears_L21 Z Q n) v0 v1 x9 x10 I6 L)))))))))))
set_option maxHeartbeats 4000000 in
set_option maxRecDepth 100000 in
theorem m_X12_wears_L21 {G : jG} {Z : jZ} {Q : Int32 → jI → jL → Prop} (E : jE G cX12_wears RX12 w_X12_wears 4 (some .int) { frames := 1, cells := 0, slots := 0, locals := 23 } (rtI Z Q)) (hZ : SH Z)  : ∀ (n : Nat) (v0 : Nat) (v1 : Int32) (v2 : Int32) (v3 : Int32) (I : jI) (L : jL), jk Z v0 12 → f_X12_wears_L21  Z Q n v0 v1 v2 v3 I L → jJ G 4 21 [(0, .ref v0), (1, .int v1), (2, .int v2), (3, .int v3)] [] Z I L 0 0 := by
  intro n
  induction n with
  | zero => intro v0 v1 v2 v3 I L _ h; exact h.elim
  | succ n ih =>
    intro v0 v1 v2 v3 I L kv0 h
    have h : (((I v0 0) ≤ v3 → Q v2 I L) ∧ (¬ ((I v0 0) ≤ v3) → (∀ b2 : Nat, jr Z v0 2 = some b2 → (∀ b3 : Nat, jr Z v0 2 = some b3 → (vp_in v3 24 ∧ (vp_in v3 24 ∧ (∀ I6 : jI, I6 = jpI I b2 v3.toNatClampNeg (if (0 : Int32) < ((I b3 v3.toNatClampNeg) - v1) then ((I b3 v3.toNatClampNeg) - v1) else (0 : Int32)) → (∀ b7 : Nat, jr Z v0 2 = some b7 → (vp_in v3 24 ∧ (∀ x9 : Int32, x9 = (v2 + (I6 b7 v3.toNatClampNeg)) → (∀ x10 : Int32, x10 = v3 + 1 → (f_X12_wears_L21 Z Q n) v0 v1 x9 x10 I6 L))))))))))) := h
    obtain ⟨K21, eK21⟩ : ∃ K : Nat → Int32 → Int32 → Int32 → jI → jL → Prop, K = f_X12_wears_L21  Z Q n := ⟨_, rfl⟩
    have hK21 := ih
    clear eK21 K21
    generalize f_X12_wears_L21  Z Q n = K21 at hK21 h
    refine j_iload_n E dX12_wears_21 3 rfl ?_
    refine j_aload_n E dX12_wears_22 0 rfl ?_
    refine j_geti E 12 0 rfl rfl (by decide) (by decide) (iw iT_12) rfl rfl (tw W_693) kv0 dX12_wears_23 ?_
    refine j_icmp_ge E 62 dX12_wears_26 (by decide) (fun c1 => ?_) (fun c1 => ?_)
    · have h := h.1 c1
      refine j_iload_n E dX12_wears_62 2 rfl ?_
      exact j_ireturn E ⟨rfl, _, rfl, h⟩ (Nat.zero_le _) (Nat.zero_le _) dX12_wears_63
    · have h := h.2 c1
      refine j_aload_n E dX12_wears_29 0 rfl ?_
      obtain ⟨b2, eb2, kb2, lb2⟩ := sh_f hZ kv0 (j := 2) (k := 14) (m := 24) rfl
      have h := h b2 eb2
      refine j_getr E 12 2 rfl rfl (by decide) (by decide) (iw iT_12) rfl rfl (tw W_742) kv0 eb2 dX12_wears_30 ?_
      refine j_iload_n E dX12_wears_33 3 rfl ?_
      refine j_iconst E (v := 0) dX12_wears_34 (by decide) ?_
      refine j_aload_n E dX12_wears_35 0 rfl ?_
      obtain ⟨b3, eb3, kb3, lb3⟩ := sh_f hZ kv0 (j := 2) (k := 14) (m := 24) rfl
      have h := h b3 eb3
      refine j_getr E 12 2 rfl rfl (by decide) (by decide) (iw iT_12) rfl rfl (tw W_742) kv0 eb3 dX12_wears_36 ?_
      refine j_iload_n E dX12_wears_39 3 rfl ?_
      obtain ⟨o4, h⟩ := h
      refine j_iald E kb3 (by rw [lb3]; exact o4) dX12_wears_40 ?_
      refine j_iload_n E dX12_wears_41 1 rfl ?_
      refine j_isub E dX12_wears_42 ?_
      refine j_max E (tw W_784) (tw W_147) (tw W_8) (tw W_148) (Nat.le_of_ble_eq_true rfl) (Nat.le_of_ble_eq_true rfl) (Nat.zero_le _) (Nat.zero_le _) dX12_wears_43 ?_
      obtain ⟨o5, h⟩ := h
      refine j_iast E kb2 (by rw [lb2]; exact o5) dX12_wears_46 ?_
      refine j_nmI (fun I6 eI6 => ?_)
      have h := h I6 eI6
      refine j_iload_n E dX12_wears_47 2 rfl ?_
      refine j_aload_n E dX12_wears_48 0 rfl ?_
      obtain ⟨b7, eb7, kb7, lb7⟩ := sh_f hZ kv0 (j := 2) (k := 14) (m := 24) rfl
      have h := h b7 eb7
      refine j_getr E 12 2 rfl rfl (by decide) (by decide) (iw iT_12) rfl rfl (tw W_742) kv0 eb7 dX12_wears_49 ?_
      refine j_iload_n E dX12_wears_52 3 rfl ?_
      obtain ⟨o8, h⟩ := h
      refine j_iald E kb7 (by rw [lb7]; exact o8) dX12_wears_53 ?_
      refine j_iadd E dX12_wears_54 ?_
      refine j_topi (fun x9 ex9 => ?_)
      have h := h x9 ex9
      refine j_istore_n E 2 [(2, .int x9), (0, .ref v0), (1, .int v1), (3, .int v3)] dX12_wears_55 rfl (by decide) rfl ?_
      obtain ⟨x10, ex10⟩ : ∃ y : Int32, y = v3 + 1 := ⟨_, rfl⟩
      have h := h x10 ex10
      refine j_iinc E x10 [(3, .int x10), (2, .int x9), (0, .ref v0), (1, .int v1)] dX12_wears_56 3 rfl (by rw [ex10]; rfl) (by decide) rfl ?_
      refine j_goto E 21 dX12_wears_59 (by decide) ?_
      refine j_sub [2, 3, 1, 0] rfl ?_
      exact hK21 v0 v1 x9 x10 I6 L kv0 h
set_option maxRecDepth 100000 in
def f_X12_wears (v0 : Nat) (v1 : Int32) (Z : jZ) (I : jI) (L : jL) (Q : Int32 → jI → jL → Prop) : Prop := (∀ I11 : jI, I11 = jpI I v0 22 (0 : Int32) → (f_X12_in v1 (0 : Int32) (9 : Int32) Z I11 L (fun r18 I14 L15 => ((¬ r18 = 0 → (∃ m21 : Nat, f_X12_wears_L21  Z Q m21 v0 v1 (0 : Int32) (0 : Int32) I14 L15)) ∧ (r18 = 0 → Q (-1 : Int32) I14 L15)))))
set_option maxHeartbeats 4000000 in
set_option maxRecDepth 100000 in
theorem c_X12_wears (l : Launch) (D : va_G) (cy : jC) (v0 : Nat) (v1 : Int32) (Z : jZ) (I : jI) (L : jL) (Q : Int32 → jI → jL → Prop) (hZ : SH Z) (kv0 : jk Z v0 12) (h : f_X12_wears v0 v1 Z I L Q) : jCt l yX12_wears w_X12_wears { frames := 1, cells := 0, slots := 0, locals := 23 } D cy [.ref v0, .int v1] Z I L (rtI Z Q) := by
  refine jCt_of (cc := cX12_wears) (maxL := 4) (ret := (some .int)) (by decide +kernel) rfl (Nat.le_of_ble_eq_true rfl) ?_
  intro G eD eY eL E
  subst eD; subst eY; subst eL
  have E : jE G cX12_wears RX12 w_X12_wears 4 (some .int) { frames := 1, cells := 0, slots := 0, locals := 23 } (rtI Z Q) := E
  show jJ G 4 0 [(0, .ref v0), (1, .int v1)] [] Z I L 0 0
  refine j_aload_n E dX12_wears_0 0 rfl ?_
  refine j_iconst E (v := 0) dX12_wears_1 (by decide) ?_
  refine j_puti E 12 22 rfl rfl (by decide) (by decide) (iw iT_12) tyX12_ok nmX12 rfl rfl (tw W_690) rfl rfl rfl kv0 dX12_wears_2 ?_
  refine j_nmI (fun I11 eI11 => ?_)
  have h := h I11 eI11
  refine j_iload_n E dX12_wears_5 1 rfl ?_
  refine j_iconst E (v := 0) dX12_wears_6 (by decide) ?_
  refine j_bipush E (v := 9) dX12_wears_7 (by decide) ?_
  refine j_callS E [.int v1, .int (0 : Int32), .int (9 : Int32)] [] (c_X12_in (gL G) (gD G) (gY G) v1 (0 : Int32) (9 : Int32) Z I11 L _ hZ  h) (gwS W_696 W_697 W_695 W_694) rfl fy_X12_in ⟨by decide, by decide⟩ rfl rfl (Nat.le_of_ble_eq_true rfl) ⟨Nat.zero_le _, Nat.zero_le _⟩ dX12_wears_9 (fun v12 Z13 I14 L15 q16 => ?_)
  obtain ⟨rfl, r18, rfl, zr18, h⟩ := q16
  show jJ G 4 12 [(0, .ref v0), (1, .int v1)] [.int r18] Z I14 L15 0 0
  refine j_if_ne E 17 dX12_wears_12 (by decide) (fun c19 => ?_) (fun c19 => ?_)
  · have h := h.1 c19
    refine j_iconst E (v := 0) dX12_wears_17 (by decide) ?_
    refine j_istore_n E 2 [(2, .int (0 : Int32)), (0, .ref v0), (1, .int v1)] dX12_wears_18 rfl (by decide) rfl ?_
    refine j_iconst E (v := 0) dX12_wears_19 (by decide) ?_
    refine j_istore_n E 3 [(3, .int (0 : Int32)), (2, .int (0 : Int32)), (0, .ref v0), (1, .int v1)] dX12_wears_20 rfl (by decide) rfl ?_
    obtain ⟨n20, h⟩ := h
    refine j_sub [2, 3, 1, 0] rfl ?_
    exact m_X12_wears_L21 E hZ  n20 v0 v1 (0 : Int32) (0 : Int32) I14 L15 kv0 h
  · have h := h.2 c19
    refine j_iconst E (v := -1) dX12_wears_15 (by decide) ?_
    exact j_ireturn E ⟨rfl, _, rfl, h⟩ (Nat.zero_le _) (Nat.zero_le _) dX12_wears_16
set_option maxRecDepth 100000 in
def f_X12_pilgrim (v0 : Nat) (v1 : Int32) (v2 : Int32) (v3 : Int32) (v4 : Int32) (Z : jZ) (I : jI) (L : jL) (Q : Int32 → jI → jL → Prop) : Prop := (∀ I1 : jI, I1 = jpI I v0 22 (0 : Int32) → (f_X12_in v1 (1 : Int32) (120 : Int32) Z I1 L (fun r8 I4 L5 => ((r8 = 0 → Q (-1 : Int32) I4 L5) ∧ (¬ (r8 = 0) → (f_X12_in v2 (0 : Int32) (999 : Int32) Z I4 L5 (fun r16 I12 L13 => ((r16 = 0 → Q (-1 : Int32) I12 L13) ∧ (¬ (r16 = 0) → (f_X12_in v3 (1 : Int32) (3 : Int32) Z I12 L13 (fun r24 I20 L21 => ((r24 = 0 → Q (-1 : Int32) I20 L21) ∧ (¬ (r24 = 0) → (f_X12_in v4 (0 : Int32) (50 : Int32) Z I20 L21 (fun r32 I28 L29 => ((r32 = 0 → Q (-1 : Int32) I28 L29) ∧ (¬ (r32 = 0) → ((¬ (I28 v0 8) = (6 : Int32) → (∀ b35 : Nat, jr Z v0 9 = some b35 → (vp_in (I28 v0 8) 6 ∧ (∀ I37 : jI, I37 = jpI I28 b35 (I28 v0 8).toNatClampNeg v1 → (∀ b38 : Nat, jr Z v0 10 = some b38 → (vp_in (I37 v0 8) 6 ∧ (∀ I40 : jI, I40 = jpI I37 b38 (I37 v0 8).toNatClampNeg v2 → (∀ b41 : Nat, jr Z v0 11 = some b41 → (vp_in (I40 v0 8) 6 ∧ (∀ I43 : jI, I43 = jpI I40 b41 (I40 v0 8).toNatClampNeg v3 → (∀ b44 : Nat, jr Z v0 12 = some b44 → (vp_in (I43 v0 8) 6 ∧ (∀ I46 : jI, I46 = jpI I43 b44 (I43 v0 8).toNatClampNeg v4 → (∀ b47 : Nat, jr Z v0 13 = some b47 → (vp_in (I46 v0 8) 6 ∧ (∀ I49 : jI, I49 = jpI I46 b47 (I46 v0 8).toNatClampNeg (0 : Int32) → (∀ b50 : Nat, jr Z v0 14 = some b50 → (vp_in (I49 v0 8) 6 ∧ (∀ I52 : jI, I52 = jpI I49 b50 (I49 v0 8).toNatClampNeg (-1 : Int32) → (∀ b53 : Nat, jr Z v0 15 = some b53 → (vp_in (I52 v0 8) 6 ∧ (∀ I55 : jI, I55 = jpI I52 b53 (I52 v0 8).toNatClampNeg v1 → (∀ b56 : Nat, jr Z v0 16 = some b56 → (vp_in (I55 v0 8) 6 ∧ (∀ I58 : jI, I58 = jpI I55 b56 (I55 v0 8).toNatClampNeg v2 → (∀ I59 : jI, I59 = jpI I58 v0 8 ((I58 v0 8) + (1 : Int32)) → Q ((I59 v0 8) - (1 : Int32)) I59 L29)))))))))))))))))))))))))) ∧ ((I28 v0 8) = (6 : Int32) → Q (-1 : Int32) I28 L29)))))))))))))))))))
set_option maxHeartbeats 4000000 in
set_option maxRecDepth 100000 in
theorem c_X12_pilgrim (l : Launch) (D : va_G) (cy : jC) (v0 : Nat) (v1 : Int32) (v2 : Int32) (v3 : Int32) (v4 : Int32) (Z : jZ) (I : jI) (L : jL) (Q : Int32 → jI → jL → Prop) (hZ : SH Z) (kv0 : jk Z v0 12) (h : f_X12_pilgrim v0 v1 v2 v3 v4 Z I L Q) : jCt l yX12_pilgrim w_X12_pilgrim { frames := 1, cells := 0, slots := 0, locals := 22 } D cy [.ref v0, .int v1, .int v2, .int v3, .int v4] Z I L (rtI Z Q) := by
  refine jCt_of (cc := cX12_pilgrim) (maxL := 5) (ret := (some .int)) (by decide +kernel) rfl (Nat.le_of_ble_eq_true rfl) ?_
  intro G eD eY eL E
  subst eD; subst eY; subst eL
  have E : jE G cX12_pilgrim RX12 w_X12_pilgrim 5 (some .int) { frames := 1, cells := 0, slots := 0, locals := 22 } (rtI Z Q) := E
  show jJ G 5 0 [(0, .ref v0), (1, .int v1), (2, .int v2), (3, .int v3), (4, .int v4)] [] Z I L 0 0
  refine j_aload_n E dX12_pilgrim_0 0 rfl ?_
  refine j_iconst E (v := 0) dX12_pilgrim_1 (by decide) ?_
  refine j_puti E 12 22 rfl rfl (by decide) (by decide) (iw iT_12) tyX12_ok nmX12 rfl rfl (tw W_690) rfl rfl rfl kv0 dX12_pilgrim_2 ?_
  refine j_nmI (fun I1 eI1 => ?_)
  have h := h I1 eI1
  refine j_iload_n E dX12_pilgrim_5 1 rfl ?_
  refine j_iconst E (v := 1) dX12_pilgrim_6 (by decide) ?_
  refine j_bipush E (v := 120) dX12_pilgrim_7 (by decide) ?_
  refine j_callS E [.int v1, .int (1 : Int32), .int (120 : Int32)] [] (c_X12_in (gL G) (gD G) (gY G) v1 (1 : Int32) (120 : Int32) Z I1 L _ hZ  h) (gwS W_696 W_697 W_695 W_694) rfl fy_X12_in ⟨by decide, by decide⟩ rfl rfl (Nat.le_of_ble_eq_true rfl) ⟨Nat.zero_le _, Nat.zero_le _⟩ dX12_pilgrim_9 (fun v2 Z3 I4 L5 q6 => ?_)
  obtain ⟨rfl, r8, rfl, zr8, h⟩ := q6
  show jJ G 5 12 [(0, .ref v0), (1, .int v1), (2, .int v2), (3, .int v3), (4, .int v4)] [.int r8] Z I4 L5 0 0
  refine j_if_eq E 55 dX12_pilgrim_12 (by decide) (fun c9 => ?_) (fun c9 => ?_)
  · have h := h.1 c9
    refine j_iconst E (v := -1) dX12_pilgrim_55 (by decide) ?_
    exact j_ireturn E ⟨rfl, _, rfl, h⟩ (Nat.zero_le _) (Nat.zero_le _) dX12_pilgrim_56
  · have h := h.2 c9
    refine j_iload_n E dX12_pilgrim_15 2 rfl ?_
    refine j_iconst E (v := 0) dX12_pilgrim_16 (by decide) ?_
    refine j_sipush E (v := 999) dX12_pilgrim_17 (by decide) ?_
    refine j_callS E [.int v2, .int (0 : Int32), .int (999 : Int32)] [] (c_X12_in (gL G) (gD G) (gY G) v2 (0 : Int32) (999 : Int32) Z I4 L5 _ hZ  h) (gwS W_696 W_697 W_695 W_694) rfl fy_X12_in ⟨by decide, by decide⟩ rfl rfl (Nat.le_of_ble_eq_true rfl) ⟨Nat.zero_le _, Nat.zero_le _⟩ dX12_pilgrim_20 (fun v10 Z11 I12 L13 q14 => ?_)
    obtain ⟨rfl, r16, rfl, zr16, h⟩ := q14
    show jJ G 5 23 [(0, .ref v0), (1, .int v1), (2, .int v2), (3, .int v3), (4, .int v4)] [.int r16] Z I12 L13 0 0
    refine j_if_eq E 55 dX12_pilgrim_23 (by decide) (fun c17 => ?_) (fun c17 => ?_)
    · have h := h.1 c17
      refine j_iconst E (v := -1) dX12_pilgrim_55 (by decide) ?_
      exact j_ireturn E ⟨rfl, _, rfl, h⟩ (Nat.zero_le _) (Nat.zero_le _) dX12_pilgrim_56
    · have h := h.2 c17
      refine j_iload_n E dX12_pilgrim_26 3 rfl ?_
      refine j_iconst E (v := 1) dX12_pilgrim_27 (by decide) ?_
      refine j_iconst E (v := 3) dX12_pilgrim_28 (by decide) ?_
      refine j_callS E [.int v3, .int (1 : Int32), .int (3 : Int32)] [] (c_X12_in (gL G) (gD G) (gY G) v3 (1 : Int32) (3 : Int32) Z I12 L13 _ hZ  h) (gwS W_696 W_697 W_695 W_694) rfl fy_X12_in ⟨by decide, by decide⟩ rfl rfl (Nat.le_of_ble_eq_true rfl) ⟨Nat.zero_le _, Nat.zero_le _⟩ dX12_pilgrim_29 (fun v18 Z19 I20 L21 q22 => ?_)
      obtain ⟨rfl, r24, rfl, zr24, h⟩ := q22
      show jJ G 5 32 [(0, .ref v0), (1, .int v1), (2, .int v2), (3, .int v3), (4, .int v4)] [.int r24] Z I20 L21 0 0
      refine j_if_eq E 55 dX12_pilgrim_32 (by decide) (fun c25 => ?_) (fun c25 => ?_)
      · have h := h.1 c25
        refine j_iconst E (v := -1) dX12_pilgrim_55 (by decide) ?_
        exact j_ireturn E ⟨rfl, _, rfl, h⟩ (Nat.zero_le _) (Nat.zero_le _) dX12_pilgrim_56
      · have h := h.2 c25
        refine j_iload E dX12_pilgrim_35 4 rfl ?_
        refine j_iconst E (v := 0) dX12_pilgrim_37 (by decide) ?_
        refine j_bipush E (v := 50) dX12_pilgrim_38 (by decide) ?_
        refine j_callS E [.int v4, .int (0 : Int32), .int (50 : Int32)] [] (c_X12_in (gL G) (gD G) (gY G) v4 (0 : Int32) (50 : Int32) Z I20 L21 _ hZ  h) (gwS W_696 W_697 W_695 W_694) rfl fy_X12_in ⟨by decide, by decide⟩ rfl rfl (Nat.le_of_ble_eq_true rfl) ⟨Nat.zero_le _, Nat.zero_le _⟩ dX12_pilgrim_40 (fun v26 Z27 I28 L29 q30 => ?_)
        obtain ⟨rfl, r32, rfl, zr32, h⟩ := q30
        show jJ G 5 43 [(0, .ref v0), (1, .int v1), (2, .int v2), (3, .int v3), (4, .int v4)] [.int r32] Z I28 L29 0 0
        refine j_if_eq E 55 dX12_pilgrim_43 (by decide) (fun c33 => ?_) (fun c33 => ?_)
        · have h := h.1 c33
          refine j_iconst E (v := -1) dX12_pilgrim_55 (by decide) ?_
          exact j_ireturn E ⟨rfl, _, rfl, h⟩ (Nat.zero_le _) (Nat.zero_le _) dX12_pilgrim_56
        · have h := h.2 c33
          refine j_aload_n E dX12_pilgrim_46 0 rfl ?_
          refine j_geti E 12 8 rfl rfl (by decide) (by decide) (iw iT_12) rfl rfl (tw W_698) kv0 dX12_pilgrim_47 ?_
          refine j_bipush E (v := 6) dX12_pilgrim_50 (by decide) ?_
          refine j_icmp_ne E 57 dX12_pilgrim_52 (by decide) (fun c34 => ?_) (fun c34 => ?_)
          · have h := h.1 c34
            refine j_aload_n E dX12_pilgrim_57 0 rfl ?_
            obtain ⟨b35, eb35, kb35, lb35⟩ := sh_f hZ kv0 (j := 9) (k := 14) (m := 6) rfl
            have h := h b35 eb35
            refine j_getr E 12 9 rfl rfl (by decide) (by decide) (iw iT_12) rfl rfl (tw W_734) kv0 eb35 dX12_pilgrim_58 ?_
            refine j_aload_n E dX12_pilgrim_61 0 rfl ?_
            refine j_geti E 12 8 rfl rfl (by decide) (by decide) (iw iT_12) rfl rfl (tw W_698) kv0 dX12_pilgrim_62 ?_
            refine j_iload_n E dX12_pilgrim_65 1 rfl ?_
            obtain ⟨o36, h⟩ := h
            refine j_iast E kb35 (by rw [lb35]; exact o36) dX12_pilgrim_66 ?_
            refine j_nmI (fun I37 eI37 => ?_)
            have h := h I37 eI37
            refine j_aload_n E dX12_pilgrim_67 0 rfl ?_
            obtain ⟨b38, eb38, kb38, lb38⟩ := sh_f hZ kv0 (j := 10) (k := 14) (m := 6) rfl
            have h := h b38 eb38
            refine j_getr E 12 10 rfl rfl (by decide) (by decide) (iw iT_12) rfl rfl (tw W_736) kv0 eb38 dX12_pilgrim_68 ?_
            refine j_aload_n E dX12_pilgrim_71 0 rfl ?_
            refine j_geti E 12 8 rfl rfl (by decide) (by decide) (iw iT_12) rfl rfl (tw W_698) kv0 dX12_pilgrim_72 ?_
            refine j_iload_n E dX12_pilgrim_75 2 rfl ?_
            obtain ⟨o39, h⟩ := h
            refine j_iast E kb38 (by rw [lb38]; exact o39) dX12_pilgrim_76 ?_
            refine j_nmI (fun I40 eI40 => ?_)
            have h := h I40 eI40
            refine j_aload_n E dX12_pilgrim_77 0 rfl ?_
            obtain ⟨b41, eb41, kb41, lb41⟩ := sh_f hZ kv0 (j := 11) (k := 14) (m := 6) rfl
            have h := h b41 eb41
            refine j_getr E 12 11 rfl rfl (by decide) (by decide) (iw iT_12) rfl rfl (tw W_800) kv0 eb41 dX12_pilgrim_78 ?_
            refine j_aload_n E dX12_pilgrim_81 0 rfl ?_
            refine j_geti E 12 8 rfl rfl (by decide) (by decide) (iw iT_12) rfl rfl (tw W_698) kv0 dX12_pilgrim_82 ?_
            refine j_iload_n E dX12_pilgrim_85 3 rfl ?_
            obtain ⟨o42, h⟩ := h
            refine j_iast E kb41 (by rw [lb41]; exact o42) dX12_pilgrim_86 ?_
            refine j_nmI (fun I43 eI43 => ?_)
            have h := h I43 eI43
            refine j_aload_n E dX12_pilgrim_87 0 rfl ?_
            obtain ⟨b44, eb44, kb44, lb44⟩ := sh_f hZ kv0 (j := 12) (k := 14) (m := 6) rfl
            have h := h b44 eb44
            refine j_getr E 12 12 rfl rfl (by decide) (by decide) (iw iT_12) rfl rfl (tw W_801) kv0 eb44 dX12_pilgrim_88 ?_
            refine j_aload_n E dX12_pilgrim_91 0 rfl ?_
            refine j_geti E 12 8 rfl rfl (by decide) (by decide) (iw iT_12) rfl rfl (tw W_698) kv0 dX12_pilgrim_92 ?_
            refine j_iload E dX12_pilgrim_95 4 rfl ?_
            obtain ⟨o45, h⟩ := h
            refine j_iast E kb44 (by rw [lb44]; exact o45) dX12_pilgrim_97 ?_
            refine j_nmI (fun I46 eI46 => ?_)
            have h := h I46 eI46
            refine j_aload_n E dX12_pilgrim_98 0 rfl ?_
            obtain ⟨b47, eb47, kb47, lb47⟩ := sh_f hZ kv0 (j := 13) (k := 14) (m := 6) rfl
            have h := h b47 eb47
            refine j_getr E 12 13 rfl rfl (by decide) (by decide) (iw iT_12) rfl rfl (tw W_802) kv0 eb47 dX12_pilgrim_99 ?_
            refine j_aload_n E dX12_pilgrim_102 0 rfl ?_
            refine j_geti E 12 8 rfl rfl (by decide) (by decide) (iw iT_12) rfl rfl (tw W_698) kv0 dX12_pilgrim_103 ?_
            refine j_iconst E (v := 0) dX12_pilgrim_106 (by decide) ?_
            obtain ⟨o48, h⟩ := h
            refine j_iast E kb47 (by rw [lb47]; exact o48) dX12_pilgrim_107 ?_
            refine j_nmI (fun I49 eI49 => ?_)
            have h := h I49 eI49
            refine j_aload_n E dX12_pilgrim_108 0 rfl ?_
            obtain ⟨b50, eb50, kb50, lb50⟩ := sh_f hZ kv0 (j := 14) (k := 14) (m := 6) rfl
            have h := h b50 eb50
            refine j_getr E 12 14 rfl rfl (by decide) (by decide) (iw iT_12) rfl rfl (tw W_732) kv0 eb50 dX12_pilgrim_109 ?_
            refine j_aload_n E dX12_pilgrim_112 0 rfl ?_
            refine j_geti E 12 8 rfl rfl (by decide) (by decide) (iw iT_12) rfl rfl (tw W_698) kv0 dX12_pilgrim_113 ?_
            refine j_iconst E (v := -1) dX12_pilgrim_116 (by decide) ?_
            obtain ⟨o51, h⟩ := h
            refine j_iast E kb50 (by rw [lb50]; exact o51) dX12_pilgrim_117 ?_
            refine j_nmI (fun I52 eI52 => ?_)
            have h := h I52 eI52
            refine j_aload_n E dX12_pilgrim_118 0 rfl ?_
            obtain ⟨b53, eb53, kb53, lb53⟩ := sh_f hZ kv0 (j := 15) (k := 14) (m := 6) rfl
            have h := h b53 eb53
            refine j_getr E 12 15 rfl rfl (by decide) (by decide) (iw iT_12) rfl rfl (tw W_733) kv0 eb53 dX12_pilgrim_119 ?_
            refine j_aload_n E dX12_pilgrim_122 0 rfl ?_
            refine j_geti E 12 8 rfl rfl (by decide) (by decide) (iw iT_12) rfl rfl (tw W_698) kv0 dX12_pilgrim_123 ?_
            refine j_iload_n E dX12_pilgrim_126 1 rfl ?_
            obtain ⟨o54, h⟩ := h
            refine j_iast E kb53 (by rw [lb53]; exact o54) dX12_pilgrim_127 ?_
            refine j_nmI (fun I55 eI55 => ?_)
            have h := h I55 eI55
            refine j_aload_n E dX12_pilgrim_128 0 rfl ?_
            obtain ⟨b56, eb56, kb56, lb56⟩ := sh_f hZ kv0 (j := 16) (k := 14) (m := 6) rfl
            have h := h b56 eb56
            refine j_getr E 12 16 rfl rfl (by decide) (by decide) (iw iT_12) rfl rfl (tw W_735) kv0 eb56 dX12_pilgrim_129 ?_
            refine j_aload_n E dX12_pilgrim_132 0 rfl ?_
            refine j_geti E 12 8 rfl rfl (by decide) (by decide) (iw iT_12) rfl rfl (tw W_698) kv0 dX12_pilgrim_133 ?_
            refine j_iload_n E dX12_pilgrim_136 2 rfl ?_
            obtain ⟨o57, h⟩ := h
            refine j_iast E kb56 (by rw [lb56]; exact o57) dX12_pilgrim_137 ?_
            refine j_nmI (fun I58 eI58 => ?_)
            have h := h I58 eI58
            refine j_aload_n E dX12_pilgrim_138 0 rfl ?_
            refine j_dup E dX12_pilgrim_139 rfl ?_
            refine j_geti E 12 8 rfl rfl (by decide) (by decide) (iw iT_12) rfl rfl (tw W_698) kv0 dX12_pilgrim_140 ?_
            refine j_iconst E (v := 1) dX12_pilgrim_143 (by decide) ?_
            refine j_iadd E dX12_pilgrim_144 ?_
            refine j_puti E 12 8 rfl rfl (by decide) (by decide) (iw iT_12) tyX12_ok nmX12 rfl rfl (tw W_698) rfl rfl rfl kv0 dX12_pilgrim_145 ?_
            refine j_nmI (fun I59 eI59 => ?_)
            have h := h I59 eI59
            refine j_aload_n E dX12_pilgrim_148 0 rfl ?_
            refine j_geti E 12 8 rfl rfl (by decide) (by decide) (iw iT_12) rfl rfl (tw W_698) kv0 dX12_pilgrim_149 ?_
            refine j_iconst E (v := 1) dX12_pilgrim_152 (by decide) ?_
            refine j_isub E dX12_pilgrim_153 ?_
            exact j_ireturn E ⟨rfl, _, rfl, h⟩ (Nat.zero_le _) (Nat.zero_le _) dX12_pilgrim_154
          · have h := h.2 c34
            refine j_iconst E (v := -1) dX12_pilgrim_55 (by decide) ?_
            exact j_ireturn E ⟨rfl, _, rfl, h⟩ (Nat.zero_le _) (Nat.zero_le _) dX12_pilgrim_56
