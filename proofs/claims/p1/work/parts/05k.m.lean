set_option maxRecDepth 100000 in
def f_X12_market_b172  (Q : Int32 → jZ → jI → jL → Prop) (v0 : Nat) (v2 : Int32) (v4 : Int32) (s0 : Nat) (s1 : Int64) (Z : jZ) (I : jI) (L : jL) : Prop := (f_X12_tell s0 s1 Z I L (fun I3 L4 => (f_X12_tell v0 (v4.toInt64) Z I3 L4 (fun I8 L9 => Q v2 Z I8 L9))))
set_option maxHeartbeats 4000000 in
set_option maxRecDepth 100000 in
theorem m_X12_market_b172 {G : jG} {Z0 : jZ} {Q : Int32 → jZ → jI → jL → Prop} (E : jE G cX12_market RX12 w_X12_market 8 (some .int) { frames := 7, cells := 0, slots := 0, locals := 176 } (xrtI Z0 Q))  (v0 : Nat) (v2 : Int32) (v4 : Int32) (s0 : Nat) (s1 : Int64) (Z : jZ) (I : jI) (L : jL) (hZ : SH Z) (hx : jext Z0 Z) (kv0 : jk Z v0 12) (ks0 : jk Z s0 12) (h : f_X12_market_b172  Q v0 v2 v4 s0 s1 Z I L) : jJ G 8 172 [(0, .ref v0), (2, .int v2), (4, .int v4)] [.long s1, .ref s0] Z I L 0 0 := by
  refine j_callV E [.long s1] [] (c_X12_tell (gL G) (gD G) (gY G) s0 s1 Z I L _ hZ ks0 h) (gwV W_784 W_785 W_786 W_679 W_783) rfl ⟨rfl, fy_X12_tell⟩ ⟨by decide, by decide⟩ (c := 12) rfl (by decide) ks0 rfl rfl (Nat.le_of_ble_eq_true rfl) ⟨Nat.zero_le _, Nat.zero_le _⟩ dX12_market_172 (fun v1 Z2 I3 L4 q5 => ?_)
  obtain ⟨rfl, rfl, h⟩ := q5
  show jJ G 8 175 [(0, .ref v0), (2, .int v2), (4, .int v4)] [] Z I3 L4 0 0
  refine j_aload_n E dX12_market_175 0 rfl ?_
  refine j_iload E dX12_market_176 2 rfl ?_
  refine j_i2l E dX12_market_178 ?_
  refine j_callV E [.long (v4.toInt64)] [] (c_X12_tell (gL G) (gD G) (gY G) v0 (v4.toInt64) Z I3 L4 _ hZ kv0 h) (gwV W_784 W_785 W_786 W_679 W_783) rfl ⟨rfl, fy_X12_tell⟩ ⟨by decide, by decide⟩ (c := 12) rfl (by decide) kv0 rfl rfl (Nat.le_of_ble_eq_true rfl) ⟨Nat.zero_le _, Nat.zero_le _⟩ dX12_market_179 (fun v6 Z7 I8 L9 q10 => ?_)
  obtain ⟨rfl, rfl, h⟩ := q10
  show jJ G 8 182 [(0, .ref v0), (2, .int v2), (4, .int v4)] [] Z I8 L9 0 0
  refine j_iload_n E dX12_market_182 1 rfl ?_
  exact j_ireturn E ⟨hx, hZ, _, rfl, h⟩ (Nat.zero_le _) (Nat.zero_le _) dX12_market_183
set_option maxRecDepth 100000 in
def f_X12_market_L130  (Q : Int32 → jZ → jI → jL → Prop) : Nat → Nat → Int32 → Int32 → Int32 → Int32 → jZ → jI → jL → Prop
  | 0 => fun _ _ _ _ _ _ _ _ => False
  | n + 1 => fun v0 v2 v3 v4 v5 Z I L => (((I v0 0) ≤ v5 → (∀ I12 : jI, I12 = jpI I v0 21 (0 : Int32) → ((v3 = 0 → f_X12_market_b172  Q v0 v2 v4 v0 (0 : Int64) Z I12 L) ∧ (¬ (v3 = 0) → f_X12_market_b172  Q v0 v2 v4 v0 (1 : Int64) Z I12 L)))) ∧ (¬ ((I v0 0) ≤ v5) → (∀ b14 : Nat, jr Z v0 3 = some b14 → (vp_in v5 24 ∧ (∀ x16 : Int32, x16 = (v4 + (I b14 v5.toNatClampNeg)) → (∀ x17 : Int32, x17 = v5 + 1 → (f_X12_market_L130 Q n) v0 v2 v3 x16 x17 Z I L))))))
set_option maxHeartbeats 4000000 in
set_option maxRecDepth 100000 in
theorem m_X12_market_L130 {G : jG} {Z0 : jZ} {Q : Int32 → jZ → jI → jL → Prop} (E : jE G cX12_market RX12 w_X12_market 8 (some .int) { frames := 7, cells := 0, slots := 0, locals := 176 } (xrtI Z0 Q))  : ∀ (n : Nat) (v0 : Nat) (v2 : Int32) (v3 : Int32) (v4 : Int32) (v5 : Int32) (Z : jZ) (I : jI) (L : jL), SH Z → jext Z0 Z → jk Z v0 12 → f_X12_market_L130  Q n v0 v2 v3 v4 v5 Z I L → jJ G 8 130 [(0, .ref v0), (2, .int v2), (3, .int v3), (4, .int v4), (5, .int v5)] [] Z I L 0 0 := by
  intro n
  induction n with
  | zero => intro v0 v2 v3 v4 v5 Z I L _ _ _ h; exact h.elim
  | succ n ih =>
    intro v0 v2 v3 v4 v5 Z I L hZ hx kv0 h
    have h : (((I v0 0) ≤ v5 → (∀ I12 : jI, I12 = jpI I v0 21 (0 : Int32) → ((v3 = 0 → f_X12_market_b172  Q v0 v2 v4 v0 (0 : Int64) Z I12 L) ∧ (¬ (v3 = 0) → f_X12_market_b172  Q v0 v2 v4 v0 (1 : Int64) Z I12 L)))) ∧ (¬ ((I v0 0) ≤ v5) → (∀ b14 : Nat, jr Z v0 3 = some b14 → (vp_in v5 24 ∧ (∀ x16 : Int32, x16 = (v4 + (I b14 v5.toNatClampNeg)) → (∀ x17 : Int32, x17 = v5 + 1 → (f_X12_market_L130 Q n) v0 v2 v3 x16 x17 Z I L)))))) := h
    obtain ⟨K130, eK130⟩ : ∃ K : Nat → Int32 → Int32 → Int32 → Int32 → jZ → jI → jL → Prop, K = f_X12_market_L130  Q n := ⟨_, rfl⟩
    have hK130 := ih
    clear eK130 K130
    generalize f_X12_market_L130  Q n = K130 at hK130 h
    refine j_iload E dX12_market_130 4 rfl ?_
    refine j_aload_n E dX12_market_132 0 rfl ?_
    refine j_geti E 12 0 rfl rfl (by decide) (by decide) (iw iT_12) rfl rfl (tw W_677) kv0 dX12_market_133 ?_
    refine j_icmp_ge E 157 dX12_market_136 (by decide) (fun c11 => ?_) (fun c11 => ?_)
    · have h := h.1 c11
      refine j_aload_n E dX12_market_157 0 rfl ?_
      refine j_iconst E (v := 0) dX12_market_158 (by decide) ?_
      refine j_puti E 12 21 rfl rfl (by decide) (by decide) (iw iT_12) tyX12_ok nmX12 rfl rfl (tw W_676) rfl rfl rfl kv0 dX12_market_159 ?_
      refine j_nmI (fun I12 eI12 => ?_)
      have h := h I12 eI12
      refine j_aload_n E dX12_market_162 0 rfl ?_
      refine j_iload_n E dX12_market_163 2 rfl ?_
      refine j_if_eq E 171 dX12_market_164 (by decide) (fun c13 => ?_) (fun c13 => ?_)
      · have h := h.1 c13
        refine j_lconst E (v := 0) dX12_market_171 (by decide) ?_
        refine j_sub [0, 1, 3] rfl ?_
        exact m_X12_market_b172 E  v0 v2 v4 v0 (0 : Int64) Z I12 L hZ hx kv0 kv0 h
      · have h := h.2 c13
        refine j_lconst E (v := 1) dX12_market_167 (by decide) ?_
        refine j_goto E 172 dX12_market_168 (by decide) ?_
        refine j_sub [0, 1, 3] rfl ?_
        exact m_X12_market_b172 E  v0 v2 v4 v0 (1 : Int64) Z I12 L hZ hx kv0 kv0 h
    · have h := h.2 c11
      refine j_iload E dX12_market_139 3 rfl ?_
      refine j_aload_n E dX12_market_141 0 rfl ?_
      obtain ⟨b14, eb14, kb14, lb14⟩ := sh_f hZ kv0 (j := 3) (k := 14) (m := 24) rfl
      have h := h b14 eb14
      refine j_getr E 12 3 rfl rfl (by decide) (by decide) (iw iT_12) rfl rfl (tw W_727) kv0 eb14 dX12_market_142 ?_
      refine j_iload E dX12_market_145 4 rfl ?_
      obtain ⟨o15, h⟩ := h
      refine j_iald E kb14 (by rw [lb14]; exact o15) dX12_market_147 ?_
      refine j_iadd E dX12_market_148 ?_
      refine j_topi (fun x16 ex16 => ?_)
      have h := h x16 ex16
      refine j_istore E 4 [(4, .int x16), (0, .ref v0), (2, .int v2), (3, .int v3), (5, .int v5)] dX12_market_149 (by decide) rfl ?_
      obtain ⟨x17, ex17⟩ : ∃ y : Int32, y = v5 + 1 := ⟨_, rfl⟩
      have h := h x17 ex17
      refine j_iinc E x17 [(5, .int x17), (4, .int x16), (0, .ref v0), (2, .int v2), (3, .int v3)] dX12_market_151 4 rfl (by rw [ex17]; rfl) (by decide) rfl ?_
      refine j_goto E 130 dX12_market_154 (by decide) ?_
      refine j_sub [2, 3, 4, 1, 0] rfl ?_
      exact hK130 v0 v2 v3 x16 x17 Z I L hZ hx kv0 h
set_option maxRecDepth 100000 in
def f_X12_market_b124  (Q : Int32 → jZ → jI → jL → Prop) (v0 : Nat) (v2 : Int32) (v3 : Int32) (Z : jZ) (I : jI) (L : jL) : Prop := (∃ m130 : Nat, f_X12_market_L130  Q m130 v0 v2 v3 (0 : Int32) (0 : Int32) Z I L)
set_option maxHeartbeats 4000000 in
set_option maxRecDepth 100000 in
theorem m_X12_market_b124 {G : jG} {Z0 : jZ} {Q : Int32 → jZ → jI → jL → Prop} (E : jE G cX12_market RX12 w_X12_market 8 (some .int) { frames := 7, cells := 0, slots := 0, locals := 176 } (xrtI Z0 Q))  (v0 : Nat) (v2 : Int32) (v3 : Int32) (Z : jZ) (I : jI) (L : jL) (hZ : SH Z) (hx : jext Z0 Z) (kv0 : jk Z v0 12) (h : f_X12_market_b124  Q v0 v2 v3 Z I L) : jJ G 8 124 [(0, .ref v0), (2, .int v2), (3, .int v3)] [] Z I L 0 0 := by
  refine j_iconst E (v := 0) dX12_market_124 (by decide) ?_
  refine j_istore E 4 [(4, .int (0 : Int32)), (0, .ref v0), (2, .int v2), (3, .int v3)] dX12_market_125 (by decide) rfl ?_
  refine j_iconst E (v := 0) dX12_market_127 (by decide) ?_
  refine j_istore E 5 [(5, .int (0 : Int32)), (4, .int (0 : Int32)), (0, .ref v0), (2, .int v2), (3, .int v3)] dX12_market_128 (by decide) rfl ?_
  obtain ⟨n18, h⟩ := h
  refine j_sub [2, 3, 4, 1, 0] rfl ?_
  exact m_X12_market_L130 E  n18 v0 v2 v3 (0 : Int32) (0 : Int32) Z I L hZ hx kv0 h
set_option maxRecDepth 100000 in
def f_X12_market_b116 (K30 : Nat → Int32 → Int32 → Int32 → Int32 → jZ → jI → jL → Prop) (Q : Int32 → jZ → jI → jL → Prop) (v0 : Nat) (v1 : Int32) (v3 : Int32) (v4 : Int32) (s0 : Int32) (s1 : Int32) (Z : jZ) (I : jI) (L : jL) : Prop := (∀ x19 : Int32, x19 = (s0 + s1) → (∀ x20 : Int32, x20 = v4 + 1 → K30 v0 v1 x19 v3 x20 Z I L))
set_option maxHeartbeats 4000000 in
set_option maxRecDepth 100000 in
theorem m_X12_market_b116 {G : jG} {Z0 : jZ} {Q : Int32 → jZ → jI → jL → Prop} (E : jE G cX12_market RX12 w_X12_market 8 (some .int) { frames := 7, cells := 0, slots := 0, locals := 176 } (xrtI Z0 Q)) (K30 : Nat → Int32 → Int32 → Int32 → Int32 → jZ → jI → jL → Prop) (hK30 : ∀ (v0 : Nat) (v1 : Int32) (v2 : Int32) (v3 : Int32) (v4 : Int32) (Z : jZ) (I : jI) (L : jL), SH Z → jext Z0 Z → jk Z v0 12 → K30 v0 v1 v2 v3 v4 Z I L → jJ G 8 30 [(0, .ref v0), (1, .int v1), (2, .int v2), (3, .int v3), (4, .int v4)] [] Z I L 0 0) (v0 : Nat) (v1 : Int32) (v3 : Int32) (v4 : Int32) (s0 : Int32) (s1 : Int32) (Z : jZ) (I : jI) (L : jL) (hZ : SH Z) (hx : jext Z0 Z) (kv0 : jk Z v0 12) (h : f_X12_market_b116 K30 Q v0 v1 v3 v4 s0 s1 Z I L) : jJ G 8 116 [(0, .ref v0), (1, .int v1), (3, .int v3), (4, .int v4)] [.int s1, .int s0] Z I L 0 0 := by
  refine j_iadd E dX12_market_116 ?_
  refine j_topi (fun x19 ex19 => ?_)
  have h := h x19 ex19
  refine j_istore_n E 2 [(2, .int x19), (0, .ref v0), (1, .int v1), (3, .int v3), (4, .int v4)] dX12_market_117 rfl (by decide) rfl ?_
  obtain ⟨x20, ex20⟩ : ∃ y : Int32, y = v4 + 1 := ⟨_, rfl⟩
  have h := h x20 ex20
  refine j_iinc E x20 [(4, .int x20), (2, .int x19), (0, .ref v0), (1, .int v1), (3, .int v3)] dX12_market_118 4 rfl (by rw [ex20]; rfl) (by decide) rfl ?_
  refine j_goto E 30 dX12_market_121 (by decide) ?_
  refine j_sub [2, 3, 1, 4, 0] rfl ?_
  exact hK30 v0 v1 x19 v3 x20 Z I L hZ hx kv0 h
set_option maxRecDepth 100000 in
def f_X12_market_b100 (K30 : Nat → Int32 → Int32 → Int32 → Int32 → jZ → jI → jL → Prop) (K45 : Nat → Int32 → Int32 → Int32 → Int32 → Int32 → jZ → jI → jL → Prop) (Q : Int32 → jZ → jI → jL → Prop) (v0 : Nat) (v1 : Int32) (v2 : Int32) (v3 : Int32) (v4 : Int32) (v5 : Int32) (Z : jZ) (I : jI) (L : jL) : Prop := (∀ x21 : Int32, x21 = v5 + 1 → K45 v0 v1 v2 v3 v4 x21 Z I L)
set_option maxHeartbeats 4000000 in
set_option maxRecDepth 100000 in
theorem m_X12_market_b100 {G : jG} {Z0 : jZ} {Q : Int32 → jZ → jI → jL → Prop} (E : jE G cX12_market RX12 w_X12_market 8 (some .int) { frames := 7, cells := 0, slots := 0, locals := 176 } (xrtI Z0 Q)) (K30 : Nat → Int32 → Int32 → Int32 → Int32 → jZ → jI → jL → Prop) (hK30 : ∀ (v0 : Nat) (v1 : Int32) (v2 : Int32) (v3 : Int32) (v4 : Int32) (Z : jZ) (I : jI) (L : jL), SH Z → jext Z0 Z → jk Z v0 12 → K30 v0 v1 v2 v3 v4 Z I L → jJ G 8 30 [(0, .ref v0), (1, .int v1), (2, .int v2), (3, .int v3), (4, .int v4)] [] Z I L 0 0) (K45 : Nat → Int32 → Int32 → Int32 → Int32 → Int32 → jZ → jI → jL → Prop) (hK45 : ∀ (v0 : Nat) (v1 : Int32) (v2 : Int32) (v3 : Int32) (v4 : Int32) (v5 : Int32) (Z : jZ) (I : jI) (L : jL), SH Z → jext Z0 Z → jk Z v0 12 → K45 v0 v1 v2 v3 v4 v5 Z I L → jJ G 8 45 [(0, .ref v0), (1, .int v1), (2, .int v2), (3, .int v3), (4, .int v4), (5, .int v5)] [] Z I L 0 0) (v0 : Nat) (v1 : Int32) (v2 : Int32) (v3 : Int32) (v4 : Int32) (v5 : Int32) (Z : jZ) (I : jI) (L : jL) (hZ : SH Z) (hx : jext Z0 Z) (kv0 : jk Z v0 12) (h : f_X12_market_b100 K30 K45 Q v0 v1 v2 v3 v4 v5 Z I L) : jJ G 8 100 [(0, .ref v0), (1, .int v1), (2, .int v2), (3, .int v3), (4, .int v4), (5, .int v5)] [] Z I L 0 0 := by
  obtain ⟨x21, ex21⟩ : ∃ y : Int32, y = v5 + 1 := ⟨_, rfl⟩
  have h := h x21 ex21
  refine j_iinc E x21 [(5, .int x21), (0, .ref v0), (1, .int v1), (2, .int v2), (3, .int v3), (4, .int v4)] dX12_market_100 5 rfl (by rw [ex21]; rfl) (by decide) rfl ?_
  refine j_goto E 45 dX12_market_103 (by decide) ?_
  refine j_sub [1, 2, 3, 4, 5, 0] rfl ?_
  exact hK45 v0 v1 v2 v3 v4 x21 Z I L hZ hx kv0 h
set_option maxRecDepth 100000 in
def f_X12_market_L45 (K30 : Nat → Int32 → Int32 → Int32 → Int32 → jZ → jI → jL → Prop) (Q : Int32 → jZ → jI → jL → Prop) : Nat → Nat → Int32 → Int32 → Int32 → Int32 → Int32 → jZ → jI → jL → Prop
  | 0 => fun _ _ _ _ _ _ _ _ _ => False
  | n + 1 => fun v0 v1 v2 v3 v4 v5 Z I L => (((I v0 0) ≤ v5 → ((v3 = 0 → f_X12_market_b116 K30 Q v0 v1 v3 v4 v2 (1 : Int32) Z I L) ∧ (¬ (v3 = 0) → f_X12_market_b116 K30 Q v0 v1 v3 v4 v2 (0 : Int32) Z I L))) ∧ (¬ ((I v0 0) ≤ v5) → (∀ b24 : Nat, jr Z v0 3 = some b24 → (vp_in v5 24 ∧ (f_X12_paidTo v0 v5 (I b24 v5.toNatClampNeg) Z I L (fun r31 Z27 I28 L29 => (f_X12_findBest v0 v5 Z27 I28 L29 (fun r38 Z34 I35 L36 => ((r31 < (I35 v0 51) → (∀ b41 : Nat, jr Z34 v0 3 = some b41 → (vp_in v5 24 ∧ (∀ I43 : jI, I43 = jpI I35 b41 v5.toNatClampNeg r38 → f_X12_market_b100 K30 (f_X12_market_L45 K30 Q n) Q v0 v1 v2 (0 : Int32) v4 v5 Z34 I43 L36)))) ∧ (¬ (r31 < (I35 v0 51)) → f_X12_market_b100 K30 (f_X12_market_L45 K30 Q n) Q v0 v1 v2 v3 v4 v5 Z34 I35 L36))))))))))
set_option maxHeartbeats 4000000 in
set_option maxRecDepth 100000 in
theorem m_X12_market_L45 {G : jG} {Z0 : jZ} {Q : Int32 → jZ → jI → jL → Prop} (E : jE G cX12_market RX12 w_X12_market 8 (some .int) { frames := 7, cells := 0, slots := 0, locals := 176 } (xrtI Z0 Q)) (K30 : Nat → Int32 → Int32 → Int32 → Int32 → jZ → jI → jL → Prop) (hK30 : ∀ (v0 : Nat) (v1 : Int32) (v2 : Int32) (v3 : Int32) (v4 : Int32) (Z : jZ) (I : jI) (L : jL), SH Z → jext Z0 Z → jk Z v0 12 → K30 v0 v1 v2 v3 v4 Z I L → jJ G 8 30 [(0, .ref v0), (1, .int v1), (2, .int v2), (3, .int v3), (4, .int v4)] [] Z I L 0 0) : ∀ (n : Nat) (v0 : Nat) (v1 : Int32) (v2 : Int32) (v3 : Int32) (v4 : Int32) (v5 : Int32) (Z : jZ) (I : jI) (L : jL), SH Z → jext Z0 Z → jk Z v0 12 → f_X12_market_L45 K30 Q n v0 v1 v2 v3 v4 v5 Z I L → jJ G 8 45 [(0, .ref v0), (1, .int v1), (2, .int v2), (3, .int v3), (4, .int v4), (5, .int v5)] [] Z I L 0 0 := by
  intro n
  induction n with
  | zero => intro v0 v1 v2 v3 v4 v5 Z I L _ _ _ h; exact h.elim
  | succ n ih =>
    intro v0 v1 v2 v3 v4 v5 Z I L hZ hx kv0 h
    have h : (((I v0 0) ≤ v5 → ((v3 = 0 → f_X12_market_b116 K30 Q v0 v1 v3 v4 v2 (1 : Int32) Z I L) ∧ (¬ (v3 = 0) → f_X12_market_b116 K30 Q v0 v1 v3 v4 v2 (0 : Int32) Z I L))) ∧ (¬ ((I v0 0) ≤ v5) → (∀ b24 : Nat, jr Z v0 3 = some b24 → (vp_in v5 24 ∧ (f_X12_paidTo v0 v5 (I b24 v5.toNatClampNeg) Z I L (fun r31 Z27 I28 L29 => (f_X12_findBest v0 v5 Z27 I28 L29 (fun r38 Z34 I35 L36 => ((r31 < (I35 v0 51) → (∀ b41 : Nat, jr Z34 v0 3 = some b41 → (vp_in v5 24 ∧ (∀ I43 : jI, I43 = jpI I35 b41 v5.toNatClampNeg r38 → f_X12_market_b100 K30 (f_X12_market_L45 K30 Q n) Q v0 v1 v2 (0 : Int32) v4 v5 Z34 I43 L36)))) ∧ (¬ (r31 < (I35 v0 51)) → f_X12_market_b100 K30 (f_X12_market_L45 K30 Q n) Q v0 v1 v2 v3 v4 v5 Z34 I35 L36)))))))))) := h
    obtain ⟨K45, eK45⟩ : ∃ K : Nat → Int32 → Int32 → Int32 → Int32 → Int32 → jZ → jI → jL → Prop, K = f_X12_market_L45 K30 Q n := ⟨_, rfl⟩
    have hK45 := ih
    clear eK45 K45
    generalize f_X12_market_L45 K30 Q n = K45 at hK45 h
    refine j_iload E dX12_market_45 5 rfl ?_
    refine j_aload_n E dX12_market_47 0 rfl ?_
    refine j_geti E 12 0 rfl rfl (by decide) (by decide) (iw iT_12) rfl rfl (tw W_677) kv0 dX12_market_48 ?_
    refine j_icmp_ge E 106 dX12_market_51 (by decide) (fun c22 => ?_) (fun c22 => ?_)
    · have h := h.1 c22
      refine j_iload_n E dX12_market_106 2 rfl ?_
      refine j_iload_n E dX12_market_107 3 rfl ?_
      refine j_if_eq E 115 dX12_market_108 (by decide) (fun c23 => ?_) (fun c23 => ?_)
      · have h := h.1 c23
        refine j_iconst E (v := 1) dX12_market_115 (by decide) ?_
        refine j_sub [0, 1, 3, 4] rfl ?_
        exact m_X12_market_b116 E K30 hK30 v0 v1 v3 v4 v2 (1 : Int32) Z I L hZ hx kv0 h
      · have h := h.2 c23
        refine j_iconst E (v := 0) dX12_market_111 (by decide) ?_
        refine j_goto E 116 dX12_market_112 (by decide) ?_
        refine j_sub [0, 1, 3, 4] rfl ?_
        exact m_X12_market_b116 E K30 hK30 v0 v1 v3 v4 v2 (0 : Int32) Z I L hZ hx kv0 h
    · have h := h.2 c22
      refine j_aload_n E dX12_market_54 0 rfl ?_
      refine j_iload E dX12_market_55 5 rfl ?_
      refine j_aload_n E dX12_market_57 0 rfl ?_
      obtain ⟨b24, eb24, kb24, lb24⟩ := sh_f hZ kv0 (j := 3) (k := 14) (m := 24) rfl
      have h := h b24 eb24
      refine j_getr E 12 3 rfl rfl (by decide) (by decide) (iw iT_12) rfl rfl (tw W_727) kv0 eb24 dX12_market_58 ?_
      refine j_iload E dX12_market_61 5 rfl ?_
      obtain ⟨o25, h⟩ := h
      refine j_iald E kb24 (by rw [lb24]; exact o25) dX12_market_63 ?_
      refine j_callV E [.int v5, .int (I b24 v5.toNatClampNeg)] [] (c_X12_paidTo (gL G) (gD G) (gY G) v0 v5 (I b24 v5.toNatClampNeg) Z I L _ hZ kv0 h) (gwV W_865 W_866 W_867 W_679 W_864) rfl ⟨rfl, fy_X12_paidTo⟩ ⟨by decide, by decide⟩ (c := 12) rfl (by decide) kv0 rfl rfl (Nat.le_of_ble_eq_true rfl) ⟨Nat.zero_le _, Nat.zero_le _⟩ dX12_market_64 (fun v26 Z27 I28 L29 q30 => ?_)
      obtain ⟨yZ27, hZ27, r31, rfl, h⟩ := q30
      have hZ := hZ27
      have hx : jext Z0 Z27 := jext_trans hx yZ27
      have k32 := (yZ27 _ _ kv0).1
      show jJ G 8 67 [(0, .ref v0), (1, .int v1), (2, .int v2), (3, .int v3), (4, .int v4), (5, .int v5)] [.int r31] Z27 I28 L29 0 0
      refine j_istore E 6 [(6, .int r31), (0, .ref v0), (1, .int v1), (2, .int v2), (3, .int v3), (4, .int v4), (5, .int v5)] dX12_market_67 (by decide) rfl ?_
      refine j_aload_n E dX12_market_69 1 rfl ?_
      refine j_iload E dX12_market_70 6 rfl ?_
      refine j_callV E [.int v5] [] (c_X12_findBest (gL G) (gD G) (gY G) v0 v5 Z27 I28 L29 _ hZ k32 h) (gwV W_870 W_871 W_872 W_679 W_869) rfl ⟨rfl, fy_X12_findBest⟩ ⟨by decide, by decide⟩ (c := 12) rfl (by decide) k32 rfl rfl (Nat.le_of_ble_eq_true rfl) ⟨Nat.zero_le _, Nat.zero_le _⟩ dX12_market_72 (fun v33 Z34 I35 L36 q37 => ?_)
      obtain ⟨yZ34, hZ34, r38, rfl, h⟩ := q37
      have hZ := hZ34
      have hx : jext Z0 Z34 := jext_trans hx yZ34
      have k39 := (yZ34 _ _ k32).1
      show jJ G 8 75 [(6, .int r31), (0, .ref v0), (1, .int v1), (2, .int v2), (3, .int v3), (4, .int v4), (5, .int v5)] [.int r38] Z34 I35 L36 0 0
      refine j_istore E 7 [(7, .int r38), (6, .int r31), (0, .ref v0), (1, .int v1), (2, .int v2), (3, .int v3), (4, .int v4), (5, .int v5)] dX12_market_75 (by decide) rfl ?_
      refine j_aload_n E dX12_market_77 2 rfl ?_
      refine j_geti E 12 51 rfl rfl (by decide) (by decide) (iw iT_12) rfl rfl (tw W_868) k39 dX12_market_78 ?_
      refine j_iload E dX12_market_81 1 rfl ?_
      refine j_icmp_gt E 89 dX12_market_83 (by decide) (fun c40 => ?_) (fun c40 => ?_)
      · have h := h.1 c40
        refine j_aload_n E dX12_market_89 2 rfl ?_
        obtain ⟨b41, eb41, kb41, lb41⟩ := sh_f hZ k39 (j := 3) (k := 14) (m := 24) rfl
        have h := h b41 eb41
        refine j_getr E 12 3 rfl rfl (by decide) (by decide) (iw iT_12) rfl rfl (tw W_727) k39 eb41 dX12_market_90 ?_
        refine j_iload E dX12_market_93 7 rfl ?_
        refine j_iload E dX12_market_95 0 rfl ?_
        obtain ⟨o42, h⟩ := h
        refine j_iast E kb41 (by rw [lb41]; exact o42) dX12_market_97 ?_
        refine j_nmI (fun I43 eI43 => ?_)
        have h := h I43 eI43
        refine j_iconst E (v := 0) dX12_market_98 (by decide) ?_
        refine j_istore_n E 3 [(3, .int (0 : Int32)), (7, .int r38), (6, .int r31), (0, .ref v0), (1, .int v1), (2, .int v2), (4, .int v4), (5, .int v5)] dX12_market_99 rfl (by decide) rfl ?_
        refine j_sub [3, 4, 5, 0, 6, 7] rfl ?_
        exact m_X12_market_b100 E K30 hK30 K45 hK45 v0 v1 v2 (0 : Int32) v4 v5 Z34 I43 L36 hZ hx k39 h
      · have h := h.2 c40
        refine j_goto E 100 dX12_market_86 (by decide) ?_
        refine j_sub [2, 3, 4, 5, 6, 7] rfl ?_
        exact m_X12_market_b100 E K30 hK30 K45 hK45 v0 v1 v2 v3 v4 v5 Z34 I35 L36 hZ hx k39 h
set_option maxRecDepth 100000 in
def f_X12_market_L30  (Q : Int32 → jZ → jI → jL → Prop) : Nat → Nat → Int32 → Int32 → Int32 → Int32 → jZ → jI → jL → Prop
  | 0 => fun _ _ _ _ _ _ _ _ => False
  | n + 1 => fun v0 v1 v2 v3 v4 Z I L => ((v1 ≤ v4 → f_X12_market_b124  Q v0 v2 v3 Z I L) ∧ (¬ (v1 ≤ v4) → ((¬ v3 = 0 → f_X12_market_b124  Q v0 v2 v3 Z I L) ∧ (v3 = 0 → (∃ m45 : Nat, f_X12_market_L45 (f_X12_market_L30 Q n) Q m45 v0 v1 v2 (1 : Int32) v4 (0 : Int32) Z I L)))))
set_option maxHeartbeats 4000000 in
set_option maxRecDepth 100000 in
theorem m_X12_market_L30 {G : jG} {Z0 : jZ} {Q : Int32 → jZ → jI → jL → Prop} (E : jE G cX12_market RX12 w_X12_market 8 (some .int) { frames := 7, cells := 0, slots := 0, locals := 176 } (xrtI Z0 Q))  : ∀ (n : Nat) (v0 : Nat) (v1 : Int32) (v2 : Int32) (v3 : Int32) (v4 : Int32) (Z : jZ) (I : jI) (L : jL), SH Z → jext Z0 Z → jk Z v0 12 → f_X12_market_L30  Q n v0 v1 v2 v3 v4 Z I L → jJ G 8 30 [(0, .ref v0), (1, .int v1), (2, .int v2), (3, .int v3), (4, .int v4)] [] Z I L 0 0 := by
  intro n
  induction n with
  | zero => intro v0 v1 v2 v3 v4 Z I L _ _ _ h; exact h.elim
  | succ n ih =>
    intro v0 v1 v2 v3 v4 Z I L hZ hx kv0 h
    have h : ((v1 ≤ v4 → f_X12_market_b124  Q v0 v2 v3 Z I L) ∧ (¬ (v1 ≤ v4) → ((¬ v3 = 0 → f_X12_market_b124  Q v0 v2 v3 Z I L) ∧ (v3 = 0 → (∃ m45 : Nat, f_X12_market_L45 (f_X12_market_L30 Q n) Q m45 v0 v1 v2 (1 : Int32) v4 (0 : Int32) Z I L))))) := h
    obtain ⟨K30, eK30⟩ : ∃ K : Nat → Int32 → Int32 → Int32 → Int32 → jZ → jI → jL → Prop, K = f_X12_market_L30  Q n := ⟨_, rfl⟩
    have hK30 := ih
    clear eK30 K30
    generalize f_X12_market_L30  Q n = K30 at hK30 h
    refine j_iload E dX12_market_30 4 rfl ?_
    refine j_iload_n E dX12_market_32 1 rfl ?_
    refine j_icmp_ge E 124 dX12_market_33 (by decide) (fun c44 => ?_) (fun c44 => ?_)
    · have h := h.1 c44
      refine j_sub [0, 2, 3] rfl ?_
      exact m_X12_market_b124 E  v0 v2 v3 Z I L hZ hx kv0 h
    · have h := h.2 c44
      refine j_iload_n E dX12_market_36 3 rfl ?_
      refine j_if_ne E 124 dX12_market_37 (by decide) (fun c45 => ?_) (fun c45 => ?_)
      · have h := h.1 c45
        refine j_sub [0, 2, 3] rfl ?_
        exact m_X12_market_b124 E  v0 v2 v3 Z I L hZ hx kv0 h
      · have h := h.2 c45
        refine j_iconst E (v := 1) dX12_market_40 (by decide) ?_
        refine j_istore_n E 3 [(3, .int (1 : Int32)), (0, .ref v0), (1, .int v1), (2, .int v2), (4, .int v4)] dX12_market_41 rfl (by decide) rfl ?_
        refine j_iconst E (v := 0) dX12_market_42 (by decide) ?_
        refine j_istore E 5 [(5, .int (0 : Int32)), (3, .int (1 : Int32)), (0, .ref v0), (1, .int v1), (2, .int v2), (4, .int v4)] dX12_market_43 (by decide) rfl ?_
        obtain ⟨n46, h⟩ := h
        refine j_sub [2, 3, 4, 1, 5, 0] rfl ?_
        exact m_X12_market_L45 E K30 hK30 n46 v0 v1 v2 (1 : Int32) v4 (0 : Int32) Z I L hZ hx kv0 h
set_option maxRecDepth 100000 in
def f_X12_market (v0 : Nat) (v1 : Int32) (Z : jZ) (I : jI) (L : jL) (Q : Int32 → jZ → jI → jL → Prop) : Prop := (∀ I47 : jI, I47 = jpI I v0 22 (0 : Int32) → (((I47 v0 0) = 0 → Q (-1 : Int32) Z I47 L) ∧ (¬ ((I47 v0 0) = 0) → (f_X12_in v1 (1 : Int32) (3 : Int32) Z I47 L (fun r54 I51 L52 => ((¬ r54 = 0 → (∃ m30 : Nat, f_X12_market_L30  Q m30 v0 v1 (0 : Int32) (0 : Int32) (0 : Int32) Z I51 L52)) ∧ (r54 = 0 → Q (-1 : Int32) Z I51 L52)))))))
set_option maxHeartbeats 4000000 in
set_option maxRecDepth 100000 in
theorem c_X12_market (l : Launch) (D : va_G) (cy : jC) (v0 : Nat) (v1 : Int32) (Z : jZ) (I : jI) (L : jL) (Q : Int32 → jZ → jI → jL → Prop) (hZ : SH Z) (kv0 : jk Z v0 12) (h : f_X12_market v0 v1 Z I L Q) : jCt l yX12_market w_X12_market { frames := 7, cells := 0, slots := 0, locals := 176 } D cy [.ref v0, .int v1] Z I L (xrtI Z Q) := by
  refine jCt_of (cc := cX12_market) (maxL := 8) (ret := (some .int)) (by decide +kernel) rfl (Nat.le_of_ble_eq_true rfl) ?_
  intro G eD eY eL E
  subst eD; subst eY; subst eL
  have E : jE G cX12_market RX12 w_X12_market 8 (some .int) { frames := 7, cells := 0, slots := 0, locals := 176 } (xrtI Z Q) := E
  have hx : jext Z Z := jext_rfl
  show jJ G 8 0 [(0, .ref v0), (1, .int v1)] [] Z I L 0 0
  refine j_aload_n E dX12_market_0 0 rfl ?_
  refine j_iconst E (v := 0) dX12_market_1 (by decide) ?_
  refine j_puti E 12 22 rfl rfl (by decide) (by decide) (iw iT_12) tyX12_ok nmX12 rfl rfl (tw W_674) rfl rfl rfl kv0 dX12_market_2 ?_
  refine j_nmI (fun I47 eI47 => ?_)
  have h := h I47 eI47
  refine j_aload_n E dX12_market_5 0 rfl ?_
  refine j_geti E 12 0 rfl rfl (by decide) (by decide) (iw iT_12) rfl rfl (tw W_677) kv0 dX12_market_6 ?_
  refine j_if_eq E 21 dX12_market_9 (by decide) (fun c48 => ?_) (fun c48 => ?_)
  · have h := h.1 c48
    refine j_iconst E (v := -1) dX12_market_21 (by decide) ?_
    exact j_ireturn E ⟨hx, hZ, _, rfl, h⟩ (Nat.zero_le _) (Nat.zero_le _) dX12_market_22
  · have h := h.2 c48
    refine j_iload_n E dX12_market_12 1 rfl ?_
    refine j_iconst E (v := 1) dX12_market_13 (by decide) ?_
    refine j_iconst E (v := 3) dX12_market_14 (by decide) ?_
    refine j_callS E [.int v1, .int (1 : Int32), .int (3 : Int32)] [] (c_X12_in (gL G) (gD G) (gY G) v1 (1 : Int32) (3 : Int32) Z I47 L _ hZ  h) (gwS W_680 W_681 W_679 W_678) rfl fy_X12_in ⟨by decide, by decide⟩ rfl rfl (Nat.le_of_ble_eq_true rfl) ⟨Nat.zero_le _, Nat.zero_le _⟩ dX12_market_15 (fun v49 Z50 I51 L52 q53 => ?_)
    obtain ⟨rfl, r54, rfl, zr54, h⟩ := q53
    show jJ G 8 18 [(0, .ref v0), (1, .int v1)] [.int r54] Z I51 L52 0 0
    refine j_if_ne E 23 dX12_market_18 (by decide) (fun c55 => ?_) (fun c55 => ?_)
    · have h := h.1 c55
      refine j_iconst E (v := 0) dX12_market_23 (by decide) ?_
      refine j_istore_n E 2 [(2, .int (0 : Int32)), (0, .ref v0), (1, .int v1)] dX12_market_24 rfl (by decide) rfl ?_
      refine j_iconst E (v := 0) dX12_market_25 (by decide) ?_
      refine j_istore_n E 3 [(3, .int (0 : Int32)), (2, .int (0 : Int32)), (0, .ref v0), (1, .int v1)] dX12_market_26 rfl (by decide) rfl ?_
      refine j_iconst E (v := 0) dX12_market_27 (by decide) ?_
      refine j_istore E 4 [(4, .int (0 : Int32)), (3, .int (0 : Int32)), (2, .int (0 : Int32)), (0, .ref v0), (1, .int v1)] dX12_market_28 (by decide) rfl ?_
      obtain ⟨n56, h⟩ := h
      refine j_sub [3, 4, 2, 1, 0] rfl ?_
      exact m_X12_market_L30 E  n56 v0 v1 (0 : Int32) (0 : Int32) (0 : Int32) Z I51 L52 hZ hx kv0 h
    · have h := h.2 c55
      refine j_iconst E (v := -1) dX12_market_21 (by decide) ?_
      exact j_ireturn E ⟨hx, hZ, _, rfl, h⟩ (Nat.zero_le _) (Nat.zero_le _) dX12_market_22
set_option maxRecDepth 100000 in
def f_X12_rememberParts_L55  (Z : jZ) (Q : jI → jL → Prop) : Nat → Nat → Int32 → Int32 → jI → jL → Prop
  | 0 => fun _ _ _ _ _ => False
  | n + 1 => fun v0 v1 v2 I L => ((v1 ≤ v2 → (∀ I2 : jI, I2 = jpI I v0 52 ((I v0 52) + (1 : Int32)) → Q I2 L)) ∧ (¬ (v1 ≤ v2) → (∀ b3 : Nat, jr Z v0 53 = some b3 → (∀ b4 : Nat, jr Z v0 54 = some b4 → (vp_in v2 192 ∧ (vp_in ((v1 * (I v0 52)) + v2) 1536 ∧ (∀ I7 : jI, I7 = jpI I b3 ((v1 * (I v0 52)) + v2).toNatClampNeg (I b4 v2.toNatClampNeg) → (∀ x8 : Int32, x8 = v2 + 1 → (f_X12_rememberParts_L55 Z Q n) v0 v1 x8 I7 L))))))))
set_option maxHeartbeats 4000000 in
set_option maxRecDepth 100000 in
theorem m_X12_rememberParts_L55 {G : jG} {Z : jZ} {Q : jI → jL → Prop} (E : jE G cX12_rememberParts RX12 w_X12_rememberParts 3 none { frames := 0, cells := 0, slots := 0, locals := 0 } (rtV Z Q)) (hZ : SH Z)  : ∀ (n : Nat) (v0 : Nat) (v1 : Int32) (v2 : Int32) (I : jI) (L : jL), jk Z v0 12 → f_X12_rememberParts_L55  Z Q n v0 v1 v2 I L → jJ G 3 55 [(0, .ref v0), (1, .int v1), (2, .int v2)] [] Z I L 0 0 := by
  intro n
  induction n with
  | zero => intro v0 v1 v2 I L _ h; exact h.elim
  | succ n ih =>
    intro v0 v1 v2 I L kv0 h
    have h : ((v1 ≤ v2 → (∀ I2 : jI, I2 = jpI I v0 52 ((I v0 52) + (1 : Int32)) → Q I2 L)) ∧ (¬ (v1 ≤ v2) → (∀ b3 : Nat, jr Z v0 53 = some b3 → (∀ b4 : Nat, jr Z v0 54 = some b4 → (vp_in v2 192 ∧ (vp_in ((v1 * (I v0 52)) + v2) 1536 ∧ (∀ I7 : jI, I7 = jpI I b3 ((v1 * (I v0 52)) + v2).toNatClampNeg (I b4 v2.toNatClampNeg) → (∀ x8 : Int32, x8 = v2 + 1 → (f_X12_rememberParts_L55 Z Q n) v0 v1 x8 I7 L)))))))) := h
    obtain ⟨K55, eK55⟩ : ∃ K : Nat → Int32 → Int32 → jI → jL → Prop, K = f_X12_rememberParts_L55  Z Q n := ⟨_, rfl⟩
    have hK55 := ih
    clear eK55 K55
    generalize f_X12_rememberParts_L55  Z Q n = K55 at hK55 h
    refine j_iload_n E dX12_rememberParts_55 2 rfl ?_
    refine j_iload_n E dX12_rememberParts_56 1 rfl ?_
    refine j_icmp_ge E 85 dX12_rememberParts_57 (by decide) (fun c1 => ?_) (fun c1 => ?_)
    · have h := h.1 c1
      refine j_aload_n E dX12_rememberParts_85 0 rfl ?_
      refine j_dup E dX12_rememberParts_86 rfl ?_
      refine j_geti E 12 52 rfl rfl (by decide) (by decide) (iw iT_12) rfl rfl (tw W_724) kv0 dX12_rememberParts_87 ?_
      refine j_iconst E (v := 1) dX12_rememberParts_90 (by decide) ?_
      refine j_iadd E dX12_rememberParts_91 ?_
      refine j_puti E 12 52 rfl rfl (by decide) (by decide) (iw iT_12) tyX12_ok nmX12 rfl rfl (tw W_724) rfl rfl rfl kv0 dX12_rememberParts_92 ?_
      refine j_nmI (fun I2 eI2 => ?_)
      have h := h I2 eI2
      exact j_return E ⟨rfl, rfl, h⟩ (Nat.zero_le _) (Nat.zero_le _) dX12_rememberParts_95
    · have h := h.2 c1
      refine j_aload_n E dX12_rememberParts_60 0 rfl ?_
      obtain ⟨b3, eb3, kb3, lb3⟩ := sh_f hZ kv0 (j := 53) (k := 14) (m := 1536) rfl
      have h := h b3 eb3
      refine j_getr E 12 53 rfl rfl (by decide) (by decide) (iw iT_12) rfl rfl (tw W_873) kv0 eb3 dX12_rememberParts_61 ?_
      refine j_iload_n E dX12_rememberParts_64 1 rfl ?_
      refine j_aload_n E dX12_rememberParts_65 0 rfl ?_
      refine j_geti E 12 52 rfl rfl (by decide) (by decide) (iw iT_12) rfl rfl (tw W_724) kv0 dX12_rememberParts_66 ?_
      refine j_imul E dX12_rememberParts_69 ?_
      refine j_iload_n E dX12_rememberParts_70 2 rfl ?_
      refine j_iadd E dX12_rememberParts_71 ?_
      refine j_aload_n E dX12_rememberParts_72 0 rfl ?_
      obtain ⟨b4, eb4, kb4, lb4⟩ := sh_f hZ kv0 (j := 54) (k := 14) (m := 192) rfl
      have h := h b4 eb4
      refine j_getr E 12 54 rfl rfl (by decide) (by decide) (iw iT_12) rfl rfl (tw W_874) kv0 eb4 dX12_rememberParts_73 ?_
      refine j_iload_n E dX12_rememberParts_76 2 rfl ?_
      obtain ⟨o5, h⟩ := h
      refine j_iald E kb4 (by rw [lb4]; exact o5) dX12_rememberParts_77 ?_
      obtain ⟨o6, h⟩ := h
      refine j_iast E kb3 (by rw [lb3]; exact o6) dX12_rememberParts_78 ?_
      refine j_nmI (fun I7 eI7 => ?_)
      have h := h I7 eI7
      obtain ⟨x8, ex8⟩ : ∃ y : Int32, y = v2 + 1 := ⟨_, rfl⟩
      have h := h x8 ex8
      refine j_iinc E x8 [(2, .int x8), (0, .ref v0), (1, .int v1)] dX12_rememberParts_79 2 rfl (by rw [ex8]; rfl) (by decide) rfl ?_
      refine j_goto E 55 dX12_rememberParts_82 (by decide) ?_
      refine j_sub [1, 2, 0] rfl ?_
      exact hK55 v0 v1 x8 I7 L kv0 h
set_option maxRecDepth 100000 in
def f_X12_rememberParts_b53  (Z : jZ) (Q : jI → jL → Prop) (v0 : Nat) (v1 : Int32) (I : jI) (L : jL) : Prop := (∃ m55 : Nat, f_X12_rememberParts_L55  Z Q m55 v0 v1 (0 : Int32) I L)
set_option maxHeartbeats 4000000 in
set_option maxRecDepth 100000 in
theorem m_X12_rememberParts_b53 {G : jG} {Z : jZ} {Q : jI → jL → Prop} (E : jE G cX12_rememberParts RX12 w_X12_rememberParts 3 none { frames := 0, cells := 0, slots := 0, locals := 0 } (rtV Z Q)) (hZ : SH Z)  (v0 : Nat) (v1 : Int32) (I : jI) (L : jL) (kv0 : jk Z v0 12) (h : f_X12_rememberParts_b53  Z Q v0 v1 I L) : jJ G 3 53 [(0, .ref v0), (1, .int v1)] [] Z I L 0 0 := by
  refine j_iconst E (v := 0) dX12_rememberParts_53 (by decide) ?_
  refine j_istore_n E 2 [(2, .int (0 : Int32)), (0, .ref v0), (1, .int v1)] dX12_rememberParts_54 rfl (by decide) rfl ?_
  obtain ⟨n9, h⟩ := h
  refine j_sub [1, 2, 0] rfl ?_
  exact m_X12_rememberParts_L55 E hZ  n9 v0 v1 (0 : Int32) I L kv0 h
set_option maxRecDepth 100000 in
def f_X12_rememberParts_L15  (Z : jZ) (Q : jI → jL → Prop) : Nat → Nat → Int32 → Int32 → jI → jL → Prop
  | 0 => fun _ _ _ _ _ => False
  | n + 1 => fun v0 v1 v2 I L => (((v1 * (7 : Int32)) ≤ v2 → (∀ I11 : jI, I11 = jpI I v0 52 ((I v0 52) - (1 : Int32)) → f_X12_rememberParts_b53  Z Q v0 v1 I11 L)) ∧ (¬ ((v1 * (7 : Int32)) ≤ v2) → (∀ b12 : Nat, jr Z v0 53 = some b12 → (∀ b13 : Nat, jr Z v0 53 = some b13 → (vp_in (v2 + v1) 1536 ∧ (vp_in v2 1536 ∧ (∀ I16 : jI, I16 = jpI I b12 v2.toNatClampNeg (I b13 (v2 + v1).toNatClampNeg) → (∀ x17 : Int32, x17 = v2 + 1 → (f_X12_rememberParts_L15 Z Q n) v0 v1 x17 I16 L))))))))
set_option maxHeartbeats 4000000 in
set_option maxRecDepth 100000 in
theorem m_X12_rememberParts_L15 {G : jG} {Z : jZ} {Q : jI → jL → Prop} (E : jE G cX12_rememberParts RX12 w_X12_rememberParts 3 none { frames := 0, cells := 0, slots := 0, locals := 0 } (rtV Z Q)) (hZ : SH Z)  : ∀ (n : Nat) (v0 : Nat) (v1 : Int32) (v2 : Int32) (I : jI) (L : jL), jk Z v0 12 → f_X12_rememberParts_L15  Z Q n v0 v1 v2 I L → jJ G 3 15 [(0, .ref v0), (1, .int v1), (2, .int v2)] [] Z I L 0 0 := by
  intro n
  induction n with
  | zero => intro v0 v1 v2 I L _ h; exact h.elim
  | succ n ih =>
    intro v0 v1 v2 I L kv0 h
    have h : (((v1 * (7 : Int32)) ≤ v2 → (∀ I11 : jI, I11 = jpI I v0 52 ((I v0 52) - (1 : Int32)) → f_X12_rememberParts_b53  Z Q v0 v1 I11 L)) ∧ (¬ ((v1 * (7 : Int32)) ≤ v2) → (∀ b12 : Nat, jr Z v0 53 = some b12 → (∀ b13 : Nat, jr Z v0 53 = some b13 → (vp_in (v2 + v1) 1536 ∧ (vp_in v2 1536 ∧ (∀ I16 : jI, I16 = jpI I b12 v2.toNatClampNeg (I b13 (v2 + v1).toNatClampNeg) → (∀ x17 : Int32, x17 = v2 + 1 → (f_X12_rememberParts_L15 Z Q n) v0 v1 x17 I16 L)))))))) := h
    obtain ⟨K15, eK15⟩ : ∃ K : Nat → Int32 → Int32 → jI → jL → Prop, K = f_X12_rememberParts_L15  Z Q n := ⟨_, rfl⟩
    have hK15 := ih
    clear eK15 K15
    generalize f_X12_rememberParts_L15  Z Q n = K15 at hK15 h
    refine j_iload_n E dX12_rememberParts_15 2 rfl ?_
    refine j_iload_n E dX12_rememberParts_16 1 rfl ?_
    refine j_bipush E (v := 7) dX12_rememberParts_17 (by decide) ?_
    refine j_imul E dX12_rememberParts_19 ?_
    refine j_icmp_ge E 43 dX12_rememberParts_20 (by decide) (fun c10 => ?_) (fun c10 => ?_)
    · have h := h.1 c10
      refine j_aload_n E dX12_rememberParts_43 0 rfl ?_
      refine j_dup E dX12_rememberParts_44 rfl ?_
      refine j_geti E 12 52 rfl rfl (by decide) (by decide) (iw iT_12) rfl rfl (tw W_724) kv0 dX12_rememberParts_45 ?_
      refine j_iconst E (v := 1) dX12_rememberParts_48 (by decide) ?_
      refine j_isub E dX12_rememberParts_49 ?_
      refine j_puti E 12 52 rfl rfl (by decide) (by decide) (iw iT_12) tyX12_ok nmX12 rfl rfl (tw W_724) rfl rfl rfl kv0 dX12_rememberParts_50 ?_
      refine j_nmI (fun I11 eI11 => ?_)
      have h := h I11 eI11
      refine j_sub [0, 1] rfl ?_
      exact m_X12_rememberParts_b53 E hZ  v0 v1 I11 L kv0 h
    · have h := h.2 c10
      refine j_aload_n E dX12_rememberParts_23 0 rfl ?_
      obtain ⟨b12, eb12, kb12, lb12⟩ := sh_f hZ kv0 (j := 53) (k := 14) (m := 1536) rfl
      have h := h b12 eb12
      refine j_getr E 12 53 rfl rfl (by decide) (by decide) (iw iT_12) rfl rfl (tw W_873) kv0 eb12 dX12_rememberParts_24 ?_
      refine j_iload_n E dX12_rememberParts_27 2 rfl ?_
      refine j_aload_n E dX12_rememberParts_28 0 rfl ?_
      obtain ⟨b13, eb13, kb13, lb13⟩ := sh_f hZ kv0 (j := 53) (k := 14) (m := 1536) rfl
      have h := h b13 eb13
      refine j_getr E 12 53 rfl rfl (by decide) (by decide) (iw iT_12) rfl rfl (tw W_873) kv0 eb13 dX12_rememberParts_29 ?_
      refine j_iload_n E dX12_rememberParts_32 2 rfl ?_
      refine j_iload_n E dX12_rememberParts_33 1 rfl ?_
      refine j_iadd E dX12_rememberParts_34 ?_
      obtain ⟨o14, h⟩ := h
      refine j_iald E kb13 (by rw [lb13]; exact o14) dX12_rememberParts_35 ?_
      obtain ⟨o15, h⟩ := h
      refine j_iast E kb12 (by rw [lb12]; exact o15) dX12_rememberParts_36 ?_
      refine j_nmI (fun I16 eI16 => ?_)
      have h := h I16 eI16
      obtain ⟨x17, ex17⟩ : ∃ y : Int32, y = v2 + 1 := ⟨_, rfl⟩
      have h := h x17 ex17
      refine j_iinc E x17 [(2, .int x17), (0, .ref v0), (1, .int v1)] dX12_rememberParts_37 2 rfl (by rw [ex17]; rfl) (by decide) rfl ?_
      refine j_goto E 15 dX12_rememberParts_40 (by decide) ?_
      refine j_sub [1, 2, 0] rfl ?_
      exact hK15 v0 v1 x17 I16 L kv0 h
set_option maxRecDepth 100000 in
def f_X12_rememberParts (v0 : Nat) (Z : jZ) (I : jI) (L : jL) (Q : jI → jL → Prop) : Prop := ((¬ (I v0 52) = (8 : Int32) → f_X12_rememberParts_b53  Z Q v0 (192 : Int32) I L) ∧ ((I v0 52) = (8 : Int32) → (∃ m15 : Nat, f_X12_rememberParts_L15  Z Q m15 v0 (192 : Int32) (0 : Int32) I L)))
set_option maxHeartbeats 4000000 in
set_option maxRecDepth 100000 in
theorem c_X12_rememberParts (l : Launch) (D : va_G) (cy : jC) (v0 : Nat) (Z : jZ) (I : jI) (L : jL) (Q : jI → jL → Prop) (hZ : SH Z) (kv0 : jk Z v0 12) (h : f_X12_rememberParts v0 Z I L Q) : jCt l yX12_rememberParts w_X12_rememberParts { frames := 0, cells := 0, slots := 0, locals := 0 } D cy [.ref v0] Z I L (rtV Z Q) := by
  refine jCt_of (cc := cX12_rememberParts) (maxL := 3) (ret := none) (by decide +kernel) rfl (Nat.le_of_ble_eq_true rfl) ?_
  intro G eD eY eL E
  subst eD; subst eY; subst eL
  have E : jE G cX12_rememberParts RX12 w_X12_rememberParts 3 none { frames := 0, cells := 0, slots := 0, locals := 0 } (rtV Z Q) := E
  show jJ G 3 0 [(0, .ref v0)] [] Z I L 0 0
  refine j_sipush E (v := 192) dX12_rememberParts_0 (by decide) ?_
  refine j_istore_n E 1 [(1, .int (192 : Int32)), (0, .ref v0)] dX12_rememberParts_3 rfl (by decide) rfl ?_
  refine j_aload_n E dX12_rememberParts_4 1 rfl ?_
  refine j_geti E 12 52 rfl rfl (by decide) (by decide) (iw iT_12) rfl rfl (tw W_724) kv0 dX12_rememberParts_5 ?_
  refine j_bipush E (v := 8) dX12_rememberParts_8 (by decide) ?_
  refine j_icmp_ne E 53 dX12_rememberParts_10 (by decide) (fun c18 => ?_) (fun c18 => ?_)
  · have h := h.1 c18
    refine j_sub [1, 0] rfl ?_
    exact m_X12_rememberParts_b53 E hZ  v0 (192 : Int32) I L kv0 h
  · have h := h.2 c18
    refine j_iconst E (v := 0) dX12_rememberParts_13 (by decide) ?_
    refine j_istore_n E 2 [(2, .int (0 : Int32)), (1, .int (192 : Int32)), (0, .ref v0)] dX12_rememberParts_14 rfl (by decide) rfl ?_
    obtain ⟨n19, h⟩ := h
    refine j_sub [2, 1, 0] rfl ?_
    exact m_X12_rememberParts_L15 E hZ  n19 v0 (192 : Int32) (0 : Int32) I L kv0 h
set_option maxRecDepth 100000 in
def f_X12_parts (v0 : Nat) (v1 : Int32) (v2 : Int32) (Z : jZ) (I : jI) (L : jL) (Q : Int32 → jI → jL → Prop) : Prop := (∀ I1 : jI, I1 = jpI I v0 22 (0 : Int32) → (f_X12_isStep v0 v1 Z I1 L (fun r7 I4 L5 => ((r7 = 0 → Q (-1 : Int32) I4 L5) ∧ (¬ (r7 = 0) → (f_X12_isFamily v2 Z I4 L5 (fun r14 I11 L12 => ((r14 = 0 → Q (-1 : Int32) I11 L12) ∧ (¬ (r14 = 0) → (∀ b16 : Nat, jr Z v0 5 = some b16 → (vp_in (((8 : Int32) * v1) + v2) 192 ∧ Q (I11 b16 (((8 : Int32) * v1) + v2).toNatClampNeg) I11 L12)))))))))))
set_option maxHeartbeats 4000000 in
set_option maxRecDepth 100000 in
theorem c_X12_parts (l : Launch) (D : va_G) (cy : jC) (v0 : Nat) (v1 : Int32) (v2 : Int32) (Z : jZ) (I : jI) (L : jL) (Q : Int32 → jI → jL → Prop) (hZ : SH Z) (kv0 : jk Z v0 12) (h : f_X12_parts v0 v1 v2 Z I L Q) : jCt l yX12_parts w_X12_parts { frames := 2, cells := 0, slots := 0, locals := 43 } D cy [.ref v0, .int v1, .int v2] Z I L (rtI Z Q) := by
  refine jCt_of (cc := cX12_parts) (maxL := 3) (ret := (some .int)) (by decide +kernel) rfl (Nat.le_of_ble_eq_true rfl) ?_
  intro G eD eY eL E
  subst eD; subst eY; subst eL
  have E : jE G cX12_parts RX12 w_X12_parts 3 (some .int) { frames := 2, cells := 0, slots := 0, locals := 43 } (rtI Z Q) := E
  show jJ G 3 0 [(0, .ref v0), (1, .int v1), (2, .int v2)] [] Z I L 0 0
  refine j_aload_n E dX12_parts_0 0 rfl ?_
  refine j_iconst E (v := 0) dX12_parts_1 (by decide) ?_
  refine j_puti E 12 22 rfl rfl (by decide) (by decide) (iw iT_12) tyX12_ok nmX12 rfl rfl (tw W_674) rfl rfl rfl kv0 dX12_parts_2 ?_
  refine j_nmI (fun I1 eI1 => ?_)
  have h := h I1 eI1
  refine j_aload_n E dX12_parts_5 0 rfl ?_
  refine j_iload_n E dX12_parts_6 1 rfl ?_
  refine j_callV E [.int v1] [] (c_X12_isStep (gL G) (gD G) (gY G) v0 v1 Z I1 L _ hZ kv0 h) (gwV W_752 W_753 W_754 W_679 W_751) rfl ⟨rfl, fy_X12_isStep⟩ ⟨by decide, by decide⟩ (c := 12) rfl (by decide) kv0 rfl rfl (Nat.le_of_ble_eq_true rfl) ⟨Nat.zero_le _, Nat.zero_le _⟩ dX12_parts_7 (fun v2 Z3 I4 L5 q6 => ?_)
  obtain ⟨rfl, r7, rfl, zr7, h⟩ := q6
  show jJ G 3 10 [(0, .ref v0), (1, .int v1), (2, .int v2)] [.int r7] Z I4 L5 0 0
  refine j_if_eq E 34 dX12_parts_10 (by decide) (fun c8 => ?_) (fun c8 => ?_)
  · have h := h.1 c8
    refine j_iconst E (v := -1) dX12_parts_34 (by decide) ?_
    exact j_ireturn E ⟨rfl, _, rfl, h⟩ (Nat.zero_le _) (Nat.zero_le _) dX12_parts_35
  · have h := h.2 c8
    refine j_iload_n E dX12_parts_13 2 rfl ?_
    refine j_callS E [.int v2] [] (c_X12_isFamily (gL G) (gD G) (gY G) v2 Z I4 L5 _ hZ  h) (gwS W_758 W_759 W_679 W_757) rfl fy_X12_isFamily ⟨by decide, by decide⟩ rfl rfl (Nat.le_of_ble_eq_true rfl) ⟨Nat.zero_le _, Nat.zero_le _⟩ dX12_parts_14 (fun v9 Z10 I11 L12 q13 => ?_)
    obtain ⟨rfl, r14, rfl, zr14, h⟩ := q13
    show jJ G 3 17 [(0, .ref v0), (1, .int v1), (2, .int v2)] [.int r14] Z I11 L12 0 0
    refine j_if_eq E 34 dX12_parts_17 (by decide) (fun c15 => ?_) (fun c15 => ?_)
    · have h := h.1 c15
      refine j_iconst E (v := -1) dX12_parts_34 (by decide) ?_
      exact j_ireturn E ⟨rfl, _, rfl, h⟩ (Nat.zero_le _) (Nat.zero_le _) dX12_parts_35
    · have h := h.2 c15
      refine j_aload_n E dX12_parts_20 0 rfl ?_
      obtain ⟨b16, eb16, kb16, lb16⟩ := sh_f hZ kv0 (j := 5) (k := 14) (m := 192) rfl
      have h := h b16 eb16
      refine j_getr E 12 5 rfl rfl (by decide) (by decide) (iw iT_12) rfl rfl (tw W_683) kv0 eb16 dX12_parts_21 ?_
      refine j_bipush E (v := 8) dX12_parts_24 (by decide) ?_
      refine j_iload_n E dX12_parts_26 1 rfl ?_
      refine j_imul E dX12_parts_27 ?_
      refine j_iload_n E dX12_parts_28 2 rfl ?_
      refine j_iadd E dX12_parts_29 ?_
      obtain ⟨o17, h⟩ := h
      refine j_iald E kb16 (by rw [lb16]; exact o17) dX12_parts_30 ?_
      refine j_goto E 35 dX12_parts_31 (by decide) ?_
      exact j_ireturn E ⟨rfl, _, rfl, h⟩ (Nat.zero_le _) (Nat.zero_le _) dX12_parts_35
set_option maxRecDepth 100000 in
def f_X12_sells_L85  (Z : jZ) (Q : Int32 → jI → jL → Prop) : Nat → Nat → Int32 → Int32 → Int32 → Int32 → Int32 → jI → jL → Prop
  | 0 => fun _ _ _ _ _ _ _ _ => False
  | n + 1 => fun v0 v1 v2 v3 v6 v7 I L => (∀ b1 : Nat, jr Z v0 54 = some b1 → (((192 : Int32) ≤ v7 → (f_X12_rememberParts v0 Z I L (fun I5 L6 => (∀ b8 : Nat, jr Z v0 5 = some b8 → (vp_in (((8 : Int32) * v1) + v2) 192 ∧ (vp_in (((8 : Int32) * v1) + v2) 192 ∧ (∀ I11 : jI, I11 = jpI I5 b8 (((8 : Int32) * v1) + v2).toNatClampNeg ((I5 b8 (((8 : Int32) * v1) + v2).toNatClampNeg) - v6) → (∀ b12 : Nat, jr Z v0 5 = some b12 → (vp_in (((8 : Int32) * v1) + v3) 192 ∧ (vp_in (((8 : Int32) * v1) + v3) 192 ∧ (∀ I15 : jI, I15 = jpI I11 b12 (((8 : Int32) * v1) + v3).toNatClampNeg ((I11 b12 (((8 : Int32) * v1) + v3).toNatClampNeg) + v6) → Q v6 I15 L6))))))))))) ∧ (¬ ((192 : Int32) ≤ v7) → (∀ b16 : Nat, jr Z v0 54 = some b16 → (∀ b17 : Nat, jr Z v0 5 = some b17 → (vp_in v7 192 ∧ (vp_in v7 192 ∧ (∀ I20 : jI, I20 = jpI I b16 v7.toNatClampNeg (I b17 v7.toNatClampNeg) → (∀ x21 : Int32, x21 = v7 + 1 → (f_X12_sells_L85 Z Q n) v0 v1 v2 v3 v6 x21 I20 L)))))))))
set_option maxHeartbeats 4000000 in
set_option maxRecDepth 100000 in
theorem m_X12_sells_L85 {G : jG} {Z : jZ} {Q : Int32 → jI → jL → Prop} (E : jE G cX12_sells RX12 w_X12_sells 8 (some .int) { frames := 2, cells := 0, slots := 0, locals := 43 } (rtI Z Q)) (hZ : SH Z)  : ∀ (n : Nat) (v0 : Nat) (v1 : Int32) (v2 : Int32) (v3 : Int32) (v6 : Int32) (v7 : Int32) (I : jI) (L : jL), jk Z v0 12 → f_X12_sells_L85  Z Q n v0 v1 v2 v3 v6 v7 I L → jJ G 8 85 [(0, .ref v0), (1, .int v1), (2, .int v2), (3, .int v3), (6, .int v6), (7, .int v7)] [] Z I L 0 0 := by
  intro n
  induction n with
  | zero => intro v0 v1 v2 v3 v6 v7 I L _ h; exact h.elim
  | succ n ih =>
    intro v0 v1 v2 v3 v6 v7 I L kv0 h
    have h : (∀ b1 : Nat, jr Z v0 54 = some b1 → (((192 : Int32) ≤ v7 → (f_X12_rememberParts v0 Z I L (fun I5 L6 => (∀ b8 : Nat, jr Z v0 5 = some b8 → (vp_in (((8 : Int32) * v1) + v2) 192 ∧ (vp_in (((8 : Int32) * v1) + v2) 192 ∧ (∀ I11 : jI, I11 = jpI I5 b8 (((8 : Int32) * v1) + v2).toNatClampNeg ((I5 b8 (((8 : Int32) * v1) + v2).toNatClampNeg) - v6) → (∀ b12 : Nat, jr Z v0 5 = some b12 → (vp_in (((8 : Int32) * v1) + v3) 192 ∧ (vp_in (((8 : Int32) * v1) + v3) 192 ∧ (∀ I15 : jI, I15 = jpI I11 b12 (((8 : Int32) * v1) + v3).toNatClampNeg ((I11 b12 (((8 : Int32) * v1) + v3).toNatClampNeg) + v6) → Q v6 I15 L6))))))))))) ∧ (¬ ((192 : Int32) ≤ v7) → (∀ b16 : Nat, jr Z v0 54 = some b16 → (∀ b17 : Nat, jr Z v0 5 = some b17 → (vp_in v7 192 ∧ (vp_in v7 192 ∧ (∀ I20 : jI, I20 = jpI I b16 v7.toNatClampNeg (I b17 v7.toNatClampNeg) → (∀ x21 : Int32, x21 = v7 + 1 → (f_X12_sells_L85 Z Q n) v0 v1 v2 v3 v6 x21 I20 L))))))))) := h
    obtain ⟨K85, eK85⟩ : ∃ K : Nat → Int32 → Int32 → Int32 → Int32 → Int32 → jI → jL → Prop, K = f_X12_sells_L85  Z Q n := ⟨_, rfl⟩
    have hK85 := ih
    clear eK85 K85
    generalize f_X12_sells_L85  Z Q n = K85 at hK85 h
    refine j_iload E dX12_sells_85 5 rfl ?_
    refine j_aload_n E dX12_sells_87 0 rfl ?_
    obtain ⟨b1, eb1, kb1, lb1⟩ := sh_f hZ kv0 (j := 54) (k := 14) (m := 192) rfl
    have h := h b1 eb1
    refine j_getr E 12 54 rfl rfl (by decide) (by decide) (iw iT_12) rfl rfl (tw W_874) kv0 eb1 dX12_sells_88 ?_
    refine j_alen14 E (v := 192) kb1 (by rw [lb1]; rfl) dX12_sells_91 ?_
    refine j_icmp_ge E 115 dX12_sells_92 (by decide) (fun c2 => ?_) (fun c2 => ?_)
    · have h := h.1 c2
      refine j_aload_n E dX12_sells_115 0 rfl ?_
      refine j_callV E [] [] (c_X12_rememberParts (gL G) (gD G) (gY G) v0 Z I L _ hZ kv0 h) (gwV W_876 W_877 W_878 W_679 W_875) rfl ⟨rfl, fy_X12_rememberParts⟩ ⟨by decide, by decide⟩ (c := 12) rfl (by decide) kv0 rfl rfl (Nat.le_of_ble_eq_true rfl) ⟨Nat.zero_le _, Nat.zero_le _⟩ dX12_sells_116 (fun v3 Z4 I5 L6 q7 => ?_)
      obtain ⟨rfl, rfl, h⟩ := q7
      show jJ G 8 119 [(0, .ref v0), (1, .int v1), (2, .int v2), (3, .int v3), (6, .int v6), (7, .int v7)] [] Z I5 L6 0 0
      refine j_aload_n E dX12_sells_119 0 rfl ?_
      obtain ⟨b8, eb8, kb8, lb8⟩ := sh_f hZ kv0 (j := 5) (k := 14) (m := 192) rfl
      have h := h b8 eb8
      refine j_getr E 12 5 rfl rfl (by decide) (by decide) (iw iT_12) rfl rfl (tw W_683) kv0 eb8 dX12_sells_120 ?_
      refine j_bipush E (v := 8) dX12_sells_123 (by decide) ?_
      refine j_iload_n E dX12_sells_125 1 rfl ?_
      refine j_imul E dX12_sells_126 ?_
      refine j_iload_n E dX12_sells_127 2 rfl ?_
      refine j_iadd E dX12_sells_128 ?_
      refine j_dup2_11 E dX12_sells_129 rfl rfl ?_
      obtain ⟨o9, h⟩ := h
      refine j_iald E kb8 (by rw [lb8]; exact o9) dX12_sells_130 ?_
      refine j_iload E dX12_sells_131 4 rfl ?_
      refine j_isub E dX12_sells_133 ?_
      obtain ⟨o10, h⟩ := h
      refine j_iast E kb8 (by rw [lb8]; exact o10) dX12_sells_134 ?_
      refine j_nmI (fun I11 eI11 => ?_)
      have h := h I11 eI11
      refine j_aload_n E dX12_sells_135 0 rfl ?_
      obtain ⟨b12, eb12, kb12, lb12⟩ := sh_f hZ kv0 (j := 5) (k := 14) (m := 192) rfl
      have h := h b12 eb12
      refine j_getr E 12 5 rfl rfl (by decide) (by decide) (iw iT_12) rfl rfl (tw W_683) kv0 eb12 dX12_sells_136 ?_
      refine j_bipush E (v := 8) dX12_sells_139 (by decide) ?_
      refine j_iload_n E dX12_sells_141 1 rfl ?_
      refine j_imul E dX12_sells_142 ?_
      refine j_iload_n E dX12_sells_143 3 rfl ?_
      refine j_iadd E dX12_sells_144 ?_
      refine j_dup2_11 E dX12_sells_145 rfl rfl ?_
      obtain ⟨o13, h⟩ := h
      refine j_iald E kb12 (by rw [lb12]; exact o13) dX12_sells_146 ?_
      refine j_iload E dX12_sells_147 4 rfl ?_
      refine j_iadd E dX12_sells_149 ?_
      obtain ⟨o14, h⟩ := h
      refine j_iast E kb12 (by rw [lb12]; exact o14) dX12_sells_150 ?_
      refine j_nmI (fun I15 eI15 => ?_)
      have h := h I15 eI15
      refine j_iload E dX12_sells_151 4 rfl ?_
      exact j_ireturn E ⟨rfl, _, rfl, h⟩ (Nat.zero_le _) (Nat.zero_le _) dX12_sells_153
    · have h := h.2 c2
      refine j_aload_n E dX12_sells_95 0 rfl ?_
      obtain ⟨b16, eb16, kb16, lb16⟩ := sh_f hZ kv0 (j := 54) (k := 14) (m := 192) rfl
      have h := h b16 eb16
      refine j_getr E 12 54 rfl rfl (by decide) (by decide) (iw iT_12) rfl rfl (tw W_874) kv0 eb16 dX12_sells_96 ?_
      refine j_iload E dX12_sells_99 5 rfl ?_
      refine j_aload_n E dX12_sells_101 0 rfl ?_
      obtain ⟨b17, eb17, kb17, lb17⟩ := sh_f hZ kv0 (j := 5) (k := 14) (m := 192) rfl
      have h := h b17 eb17
      refine j_getr E 12 5 rfl rfl (by decide) (by decide) (iw iT_12) rfl rfl (tw W_683) kv0 eb17 dX12_sells_102 ?_
      refine j_iload E dX12_sells_105 5 rfl ?_
      obtain ⟨o18, h⟩ := h
      refine j_iald E kb17 (by rw [lb17]; exact o18) dX12_sells_107 ?_
      obtain ⟨o19, h⟩ := h
      refine j_iast E kb16 (by rw [lb16]; exact o19) dX12_sells_108 ?_
      refine j_nmI (fun I20 eI20 => ?_)
      have h := h I20 eI20
      obtain ⟨x21, ex21⟩ : ∃ y : Int32, y = v7 + 1 := ⟨_, rfl⟩
      have h := h x21 ex21
      refine j_iinc E x21 [(7, .int x21), (0, .ref v0), (1, .int v1), (2, .int v2), (3, .int v3), (6, .int v6)] dX12_sells_109 5 rfl (by rw [ex21]; rfl) (by decide) rfl ?_
      refine j_goto E 85 dX12_sells_112 (by decide) ?_
      refine j_sub [1, 2, 3, 4, 5, 0] rfl ?_
      exact hK85 v0 v1 v2 v3 v6 x21 I20 L kv0 h
set_option maxRecDepth 100000 in
def f_X12_sells (v0 : Nat) (v1 : Int32) (v2 : Int32) (v3 : Int32) (v4 : Int32) (v5 : Int32) (Z : jZ) (I : jI) (L : jL) (Q : Int32 → jI → jL → Prop) : Prop := (∀ I22 : jI, I22 = jpI I v0 22 (0 : Int32) → (f_X12_isStep v0 v1 Z I22 L (fun r28 I25 L26 => ((r28 = 0 → Q (-1 : Int32) I25 L26) ∧ (¬ (r28 = 0) → (f_X12_isFamily v2 Z I25 L26 (fun r35 I32 L33 => ((r35 = 0 → Q (-1 : Int32) I32 L33) ∧ (¬ (r35 = 0) → (f_X12_isFamily v3 Z I32 L33 (fun r42 I39 L40 => ((r42 = 0 → Q (-1 : Int32) I39 L40) ∧ (¬ (r42 = 0) → ((v2 = v3 → Q (-1 : Int32) I39 L40) ∧ (¬ (v2 = v3) → (f_X12_in v5 (1 : Int32) (9 : Int32) Z I39 L40 (fun r50 I47 L48 => ((r50 = 0 → Q (-1 : Int32) I47 L48) ∧ (¬ (r50 = 0) → (f_X12_in v4 (1 : Int32) v5 Z I47 L48 (fun r57 I54 L55 => ((¬ r57 = 0 → (∀ b59 : Nat, jr Z v0 5 = some b59 → (vp_in (((8 : Int32) * v1) + v2) 192 ∧ (¬ v5 = 0 ∧ (∀ x62 : Int32, x62 = (((I54 b59 (((8 : Int32) * v1) + v2).toNatClampNeg) * v4) / v5) → ((¬ x62 = 0 → (∃ m85 : Nat, f_X12_sells_L85  Z Q m85 v0 v1 v2 v3 x62 (0 : Int32) I54 L55)) ∧ (x62 = 0 → Q (-1 : Int32) I54 L55))))))) ∧ (r57 = 0 → Q (-1 : Int32) I54 L55)))))))))))))))))))))))
set_option maxHeartbeats 4000000 in
set_option maxRecDepth 100000 in
theorem c_X12_sells (l : Launch) (D : va_G) (cy : jC) (v0 : Nat) (v1 : Int32) (v2 : Int32) (v3 : Int32) (v4 : Int32) (v5 : Int32) (Z : jZ) (I : jI) (L : jL) (Q : Int32 → jI → jL → Prop) (hZ : SH Z) (kv0 : jk Z v0 12) (h : f_X12_sells v0 v1 v2 v3 v4 v5 Z I L Q) : jCt l yX12_sells w_X12_sells { frames := 2, cells := 0, slots := 0, locals := 43 } D cy [.ref v0, .int v1, .int v2, .int v3, .int v4, .int v5] Z I L (rtI Z Q) := by
  refine jCt_of (cc := cX12_sells) (maxL := 8) (ret := (some .int)) (by decide +kernel) rfl (Nat.le_of_ble_eq_true rfl) ?_
  intro G eD eY eL E
  subst eD; subst eY; subst eL
  have E : jE G cX12_sells RX12 w_X12_sells 8 (some .int) { frames := 2, cells := 0, slots := 0, locals := 43 } (rtI Z Q) := E
  show jJ G 8 0 [(0, .ref v0), (1, .int v1), (2, .int v2), (3, .int v3), (4, .int v4), (5, .int v5)] [] Z I L 0 0
  refine j_aload_n E dX12_sells_0 0 rfl ?_
  refine j_iconst E (v := 0) dX12_sells_1 (by decide) ?_
  refine j_puti E 12 22 rfl rfl (by decide) (by decide) (iw iT_12) tyX12_ok nmX12 rfl rfl (tw W_674) rfl rfl rfl kv0 dX12_sells_2 ?_
  refine j_nmI (fun I22 eI22 => ?_)
  have h := h I22 eI22
  refine j_aload_n E dX12_sells_5 0 rfl ?_
  refine j_iload_n E dX12_sells_6 1 rfl ?_
  refine j_callV E [.int v1] [] (c_X12_isStep (gL G) (gD G) (gY G) v0 v1 Z I22 L _ hZ kv0 h) (gwV W_752 W_753 W_754 W_679 W_751) rfl ⟨rfl, fy_X12_isStep⟩ ⟨by decide, by decide⟩ (c := 12) rfl (by decide) kv0 rfl rfl (Nat.le_of_ble_eq_true rfl) ⟨Nat.zero_le _, Nat.zero_le _⟩ dX12_sells_7 (fun v23 Z24 I25 L26 q27 => ?_)
  obtain ⟨rfl, r28, rfl, zr28, h⟩ := q27
  show jJ G 8 10 [(0, .ref v0), (1, .int v1), (2, .int v2), (3, .int v3), (4, .int v4), (5, .int v5)] [.int r28] Z I25 L26 0 0
  refine j_if_eq E 54 dX12_sells_10 (by decide) (fun c29 => ?_) (fun c29 => ?_)
  · have h := h.1 c29
    refine j_iconst E (v := -1) dX12_sells_54 (by decide) ?_
    exact j_ireturn E ⟨rfl, _, rfl, h⟩ (Nat.zero_le _) (Nat.zero_le _) dX12_sells_55
  · have h := h.2 c29
    refine j_iload_n E dX12_sells_13 2 rfl ?_
    refine j_callS E [.int v2] [] (c_X12_isFamily (gL G) (gD G) (gY G) v2 Z I25 L26 _ hZ  h) (gwS W_758 W_759 W_679 W_757) rfl fy_X12_isFamily ⟨by decide, by decide⟩ rfl rfl (Nat.le_of_ble_eq_true rfl) ⟨Nat.zero_le _, Nat.zero_le _⟩ dX12_sells_14 (fun v30 Z31 I32 L33 q34 => ?_)
    obtain ⟨rfl, r35, rfl, zr35, h⟩ := q34
    show jJ G 8 17 [(0, .ref v0), (1, .int v1), (2, .int v2), (3, .int v3), (4, .int v4), (5, .int v5)] [.int r35] Z I32 L33 0 0
    refine j_if_eq E 54 dX12_sells_17 (by decide) (fun c36 => ?_) (fun c36 => ?_)
    · have h := h.1 c36
      refine j_iconst E (v := -1) dX12_sells_54 (by decide) ?_
      exact j_ireturn E ⟨rfl, _, rfl, h⟩ (Nat.zero_le _) (Nat.zero_le _) dX12_sells_55
    · have h := h.2 c36
      refine j_iload_n E dX12_sells_20 3 rfl ?_
      refine j_callS E [.int v3] [] (c_X12_isFamily (gL G) (gD G) (gY G) v3 Z I32 L33 _ hZ  h) (gwS W_758 W_759 W_679 W_757) rfl fy_X12_isFamily ⟨by decide, by decide⟩ rfl rfl (Nat.le_of_ble_eq_true rfl) ⟨Nat.zero_le _, Nat.zero_le _⟩ dX12_sells_21 (fun v37 Z38 I39 L40 q41 => ?_)
      obtain ⟨rfl, r42, rfl, zr42, h⟩ := q41
      show jJ G 8 24 [(0, .ref v0), (1, .int v1), (2, .int v2), (3, .int v3), (4, .int v4), (5, .int v5)] [.int r42] Z I39 L40 0 0
      refine j_if_eq E 54 dX12_sells_24 (by decide) (fun c43 => ?_) (fun c43 => ?_)
      · have h := h.1 c43
        refine j_iconst E (v := -1) dX12_sells_54 (by decide) ?_
        exact j_ireturn E ⟨rfl, _, rfl, h⟩ (Nat.zero_le _) (Nat.zero_le _) dX12_sells_55
      · have h := h.2 c43
        refine j_iload_n E dX12_sells_27 2 rfl ?_
        refine j_iload_n E dX12_sells_28 3 rfl ?_
        refine j_icmp_eq E 54 dX12_sells_29 (by decide) (fun c44 => ?_) (fun c44 => ?_)
        · have h := h.1 c44
          refine j_iconst E (v := -1) dX12_sells_54 (by decide) ?_
          exact j_ireturn E ⟨rfl, _, rfl, h⟩ (Nat.zero_le _) (Nat.zero_le _) dX12_sells_55
        · have h := h.2 c44
          refine j_iload E dX12_sells_32 5 rfl ?_
          refine j_iconst E (v := 1) dX12_sells_34 (by decide) ?_
          refine j_bipush E (v := 9) dX12_sells_35 (by decide) ?_
          refine j_callS E [.int v5, .int (1 : Int32), .int (9 : Int32)] [] (c_X12_in (gL G) (gD G) (gY G) v5 (1 : Int32) (9 : Int32) Z I39 L40 _ hZ  h) (gwS W_680 W_681 W_679 W_678) rfl fy_X12_in ⟨by decide, by decide⟩ rfl rfl (Nat.le_of_ble_eq_true rfl) ⟨Nat.zero_le _, Nat.zero_le _⟩ dX12_sells_37 (fun v45 Z46 I47 L48 q49 => ?_)
          obtain ⟨rfl, r50, rfl, zr50, h⟩ := q49
          show jJ G 8 40 [(0, .ref v0), (1, .int v1), (2, .int v2), (3, .int v3), (4, .int v4), (5, .int v5)] [.int r50] Z I47 L48 0 0
          refine j_if_eq E 54 dX12_sells_40 (by decide) (fun c51 => ?_) (fun c51 => ?_)
          · have h := h.1 c51
            refine j_iconst E (v := -1) dX12_sells_54 (by decide) ?_
            exact j_ireturn E ⟨rfl, _, rfl, h⟩ (Nat.zero_le _) (Nat.zero_le _) dX12_sells_55
          · have h := h.2 c51
            refine j_iload E dX12_sells_43 4 rfl ?_
            refine j_iconst E (v := 1) dX12_sells_45 (by decide) ?_
            refine j_iload E dX12_sells_46 5 rfl ?_
            refine j_callS E [.int v4, .int (1 : Int32), .int v5] [] (c_X12_in (gL G) (gD G) (gY G) v4 (1 : Int32) v5 Z I47 L48 _ hZ  h) (gwS W_680 W_681 W_679 W_678) rfl fy_X12_in ⟨by decide, by decide⟩ rfl rfl (Nat.le_of_ble_eq_true rfl) ⟨Nat.zero_le _, Nat.zero_le _⟩ dX12_sells_48 (fun v52 Z53 I54 L55 q56 => ?_)
            obtain ⟨rfl, r57, rfl, zr57, h⟩ := q56
            show jJ G 8 51 [(0, .ref v0), (1, .int v1), (2, .int v2), (3, .int v3), (4, .int v4), (5, .int v5)] [.int r57] Z I54 L55 0 0
            refine j_if_ne E 56 dX12_sells_51 (by decide) (fun c58 => ?_) (fun c58 => ?_)
            · have h := h.1 c58
              refine j_aload_n E dX12_sells_56 0 rfl ?_
              obtain ⟨b59, eb59, kb59, lb59⟩ := sh_f hZ kv0 (j := 5) (k := 14) (m := 192) rfl
              have h := h b59 eb59
              refine j_getr E 12 5 rfl rfl (by decide) (by decide) (iw iT_12) rfl rfl (tw W_683) kv0 eb59 dX12_sells_57 ?_
              refine j_bipush E (v := 8) dX12_sells_60 (by decide) ?_
              refine j_iload_n E dX12_sells_62 1 rfl ?_
              refine j_imul E dX12_sells_63 ?_
              refine j_iload_n E dX12_sells_64 2 rfl ?_
              refine j_iadd E dX12_sells_65 ?_
              obtain ⟨o60, h⟩ := h
              refine j_iald E kb59 (by rw [lb59]; exact o60) dX12_sells_66 ?_
              refine j_iload E dX12_sells_67 4 rfl ?_
              refine j_imul E dX12_sells_69 ?_
              refine j_iload E dX12_sells_70 5 rfl ?_
              obtain ⟨o61, h⟩ := h
              refine j_idiv E dX12_sells_72 o61 ?_
              refine j_topi (fun x62 ex62 => ?_)
              have h := h x62 ex62
              refine j_istore E 6 [(6, .int x62), (0, .ref v0), (1, .int v1), (2, .int v2), (3, .int v3), (4, .int v4), (5, .int v5)] dX12_sells_73 (by decide) rfl ?_
              refine j_iload E dX12_sells_75 0 rfl ?_
              refine j_if_ne E 82 dX12_sells_77 (by decide) (fun c63 => ?_) (fun c63 => ?_)
              · have h := h.1 c63
                refine j_iconst E (v := 0) dX12_sells_82 (by decide) ?_
                refine j_istore E 7 [(7, .int (0 : Int32)), (6, .int x62), (0, .ref v0), (1, .int v1), (2, .int v2), (3, .int v3), (4, .int v4), (5, .int v5)] dX12_sells_83 (by decide) rfl ?_
                obtain ⟨n64, h⟩ := h
                refine j_sub [2, 3, 4, 5, 1, 0] rfl ?_
                exact m_X12_sells_L85 E hZ  n64 v0 v1 v2 v3 x62 (0 : Int32) I54 L55 kv0 h
              · have h := h.2 c63
                refine j_iconst E (v := -1) dX12_sells_80 (by decide) ?_
                exact j_ireturn E ⟨rfl, _, rfl, h⟩ (Nat.zero_le _) (Nat.zero_le _) dX12_sells_81
            · have h := h.2 c58
              refine j_iconst E (v := -1) dX12_sells_54 (by decide) ?_
              exact j_ireturn E ⟨rfl, _, rfl, h⟩ (Nat.zero_le _) (Nat.zero_le _) dX12_sells_55
set_option maxRecDepth 100000 in
def f_X12_dies_b172 (K73 : Nat → Int32 → Int32 → Int32 → Int32 → Int32 → jI → jL → Prop) (K115 : Nat → Int32 → Int32 → Int32 → Int32 → Int32 → Int32 → Int32 → Int32 → jI → jL → Prop) (Z : jZ) (Q : Int32 → jI → jL → Prop) (v0 : Nat) (v1 : Int32) (v2 : Int32) (v3 : Int32) (v4 : Int32) (v5 : Int32) (v6 : Int32) (v7 : Int32) (v8 : Int32) (I : jI) (L : jL) : Prop := (∀ x1 : Int32, x1 = v8 + 1 → K115 v0 v1 v2 v3 v4 v5 v6 v7 x1 I L)
set_option maxHeartbeats 4000000 in
set_option maxRecDepth 100000 in
theorem m_X12_dies_b172 {G : jG} {Z : jZ} {Q : Int32 → jI → jL → Prop} (E : jE G cX12_dies RX12 w_X12_dies 9 (some .int) { frames := 2, cells := 0, slots := 0, locals := 42 } (rtI Z Q)) (hZ : SH Z) (K73 : Nat → Int32 → Int32 → Int32 → Int32 → Int32 → jI → jL → Prop) (hK73 : ∀ (v0 : Nat) (v1 : Int32) (v2 : Int32) (v3 : Int32) (v4 : Int32) (v5 : Int32) (I : jI) (L : jL), jk Z v0 12 → K73 v0 v1 v2 v3 v4 v5 I L → jJ G 9 73 [(0, .ref v0), (1, .int v1), (2, .int v2), (3, .int v3), (4, .int v4), (5, .int v5)] [] Z I L 0 0) (K115 : Nat → Int32 → Int32 → Int32 → Int32 → Int32 → Int32 → Int32 → Int32 → jI → jL → Prop) (hK115 : ∀ (v0 : Nat) (v1 : Int32) (v2 : Int32) (v3 : Int32) (v4 : Int32) (v5 : Int32) (v6 : Int32) (v7 : Int32) (v8 : Int32) (I : jI) (L : jL), jk Z v0 12 → K115 v0 v1 v2 v3 v4 v5 v6 v7 v8 I L → jJ G 9 115 [(0, .ref v0), (1, .int v1), (2, .int v2), (3, .int v3), (4, .int v4), (5, .int v5), (6, .int v6), (7, .int v7), (8, .int v8)] [] Z I L 0 0) (v0 : Nat) (v1 : Int32) (v2 : Int32) (v3 : Int32) (v4 : Int32) (v5 : Int32) (v6 : Int32) (v7 : Int32) (v8 : Int32) (I : jI) (L : jL) (kv0 : jk Z v0 12) (h : f_X12_dies_b172 K73 K115 Z Q v0 v1 v2 v3 v4 v5 v6 v7 v8 I L) : jJ G 9 172 [(0, .ref v0), (1, .int v1), (2, .int v2), (3, .int v3), (4, .int v4), (5, .int v5), (6, .int v6), (7, .int v7), (8, .int v8)] [] Z I L 0 0 := by
  obtain ⟨x1, ex1⟩ : ∃ y : Int32, y = v8 + 1 := ⟨_, rfl⟩
  have h := h x1 ex1
  refine j_iinc E x1 [(8, .int x1), (0, .ref v0), (1, .int v1), (2, .int v2), (3, .int v3), (4, .int v4), (5, .int v5), (6, .int v6), (7, .int v7)] dX12_dies_172 8 rfl (by rw [ex1]; rfl) (by decide) rfl ?_
  refine j_goto E 115 dX12_dies_175 (by decide) ?_
  refine j_sub [1, 2, 3, 4, 5, 6, 7, 8, 0] rfl ?_
  exact hK115 v0 v1 v2 v3 v4 v5 v6 v7 x1 I L kv0 h
set_option maxRecDepth 100000 in
def f_X12_dies_b166 (K73 : Nat → Int32 → Int32 → Int32 → Int32 → Int32 → jI → jL → Prop) (K115 : Nat → Int32 → Int32 → Int32 → Int32 → Int32 → Int32 → Int32 → Int32 → jI → jL → Prop) (Z : jZ) (Q : Int32 → jI → jL → Prop) (v0 : Nat) (v1 : Int32) (v2 : Int32) (v3 : Int32) (v4 : Int32) (v5 : Int32) (v6 : Int32) (v7 : Int32) (v8 : Int32) (s0 : Nat) (s1 : Int32) (s2 : Int32) (s3 : Int32) (s4 : Int32) (I : jI) (L : jL) : Prop := (vp_in s1 (jlen Z s0) ∧ (∀ I3 : jI, I3 = jpI I s0 s1.toNatClampNeg (s2 + (s3 + s4)) → (∀ x4 : Int32, x4 = v7 + 1 → f_X12_dies_b172 K73 K115 Z Q v0 v1 v2 v3 v4 v5 v6 x4 v8 I3 L)))
set_option maxHeartbeats 4000000 in
set_option maxRecDepth 100000 in
theorem m_X12_dies_b166 {G : jG} {Z : jZ} {Q : Int32 → jI → jL → Prop} (E : jE G cX12_dies RX12 w_X12_dies 9 (some .int) { frames := 2, cells := 0, slots := 0, locals := 42 } (rtI Z Q)) (hZ : SH Z) (K73 : Nat → Int32 → Int32 → Int32 → Int32 → Int32 → jI → jL → Prop) (hK73 : ∀ (v0 : Nat) (v1 : Int32) (v2 : Int32) (v3 : Int32) (v4 : Int32) (v5 : Int32) (I : jI) (L : jL), jk Z v0 12 → K73 v0 v1 v2 v3 v4 v5 I L → jJ G 9 73 [(0, .ref v0), (1, .int v1), (2, .int v2), (3, .int v3), (4, .int v4), (5, .int v5)] [] Z I L 0 0) (K115 : Nat → Int32 → Int32 → Int32 → Int32 → Int32 → Int32 → Int32 → Int32 → jI → jL → Prop) (hK115 : ∀ (v0 : Nat) (v1 : Int32) (v2 : Int32) (v3 : Int32) (v4 : Int32) (v5 : Int32) (v6 : Int32) (v7 : Int32) (v8 : Int32) (I : jI) (L : jL), jk Z v0 12 → K115 v0 v1 v2 v3 v4 v5 v6 v7 v8 I L → jJ G 9 115 [(0, .ref v0), (1, .int v1), (2, .int v2), (3, .int v3), (4, .int v4), (5, .int v5), (6, .int v6), (7, .int v7), (8, .int v8)] [] Z I L 0 0) (v0 : Nat) (v1 : Int32) (v2 : Int32) (v3 : Int32) (v4 : Int32) (v5 : Int32) (v6 : Int32) (v7 : Int32) (v8 : Int32) (s0 : Nat) (s1 : Int32) (s2 : Int32) (s3 : Int32) (s4 : Int32) (I : jI) (L : jL) (kv0 : jk Z v0 12) (ks0 : jk Z s0 14) (h : f_X12_dies_b166 K73 K115 Z Q v0 v1 v2 v3 v4 v5 v6 v7 v8 s0 s1 s2 s3 s4 I L) : jJ G 9 166 [(0, .ref v0), (1, .int v1), (2, .int v2), (3, .int v3), (4, .int v4), (5, .int v5), (6, .int v6), (7, .int v7), (8, .int v8)] [.int s4, .int s3, .int s2, .int s1, .ref s0] Z I L 0 0 := by
  refine j_iadd E dX12_dies_166 ?_
  refine j_iadd E dX12_dies_167 ?_
  obtain ⟨o2, h⟩ := h
  refine j_iast E ks0 o2 dX12_dies_168 ?_
  refine j_nmI (fun I3 eI3 => ?_)
  have h := h I3 eI3
  obtain ⟨x4, ex4⟩ : ∃ y : Int32, y = v7 + 1 := ⟨_, rfl⟩
  have h := h x4 ex4
  refine j_iinc E x4 [(7, .int x4), (0, .ref v0), (1, .int v1), (2, .int v2), (3, .int v3), (4, .int v4), (5, .int v5), (6, .int v6), (8, .int v8)] dX12_dies_169 7 rfl (by rw [ex4]; rfl) (by decide) rfl ?_
  refine j_sub [1, 2, 3, 4, 5, 6, 7, 0, 8] rfl ?_
  exact m_X12_dies_b172 E hZ K73 hK73 K115 hK115 v0 v1 v2 v3 v4 v5 v6 x4 v8 I3 L kv0 h
set_option maxRecDepth 100000 in
def f_X12_dies_L115 (K73 : Nat → Int32 → Int32 → Int32 → Int32 → Int32 → jI → jL → Prop) (Z : jZ) (Q : Int32 → jI → jL → Prop) : Nat → Nat → Int32 → Int32 → Int32 → Int32 → Int32 → Int32 → Int32 → Int32 → jI → jL → Prop
  | 0 => fun _ _ _ _ _ _ _ _ _ _ _ => False
  | n + 1 => fun v0 v1 v2 v3 v4 v5 v6 v7 v8 I L => (((8 : Int32) ≤ v8 → (∀ x6 : Int32, x6 = (v4 + v6) → (∀ x7 : Int32, x7 = v5 + 1 → K73 v0 v1 v2 v3 x6 x7 I L))) ∧ (¬ ((8 : Int32) ≤ v8) → (f_X12_has v2 v8 Z I L (fun r13 I10 L11 => ((¬ r13 = 0 → (∀ b15 : Nat, jr Z v0 5 = some b15 → (vp_in (((8 : Int32) * v5) + v8) 192 ∧ (¬ v3 = 0 ∧ (¬ v3 = 0 ∧ (((v6 - v6 / v3 * v3) ≤ v7 → f_X12_dies_b166 K73 (f_X12_dies_L115 K73 Z Q n) Z Q v0 v1 v2 v3 v4 v5 v6 v7 v8 b15 (((8 : Int32) * v5) + v8) (I10 b15 (((8 : Int32) * v5) + v8).toNatClampNeg) (v6 / v3) (0 : Int32) I10 L11) ∧ (¬ ((v6 - v6 / v3 * v3) ≤ v7) → f_X12_dies_b166 K73 (f_X12_dies_L115 K73 Z Q n) Z Q v0 v1 v2 v3 v4 v5 v6 v7 v8 b15 (((8 : Int32) * v5) + v8) (I10 b15 (((8 : Int32) * v5) + v8).toNatClampNeg) (v6 / v3) (1 : Int32) I10 L11))))))) ∧ (r13 = 0 → f_X12_dies_b172 K73 (f_X12_dies_L115 K73 Z Q n) Z Q v0 v1 v2 v3 v4 v5 v6 v7 v8 I10 L11))))))
set_option maxHeartbeats 4000000 in
set_option maxRecDepth 100000 in
theorem m_X12_dies_L115 {G : jG} {Z : jZ} {Q : Int32 → jI → jL → Prop} (E : jE G cX12_dies RX12 w_X12_dies 9 (some .int) { frames := 2, cells := 0, slots := 0, locals := 42 } (rtI Z Q)) (hZ : SH Z) (K73 : Nat → Int32 → Int32 → Int32 → Int32 → Int32 → jI → jL → Prop) (hK73 : ∀ (v0 : Nat) (v1 : Int32) (v2 : Int32) (v3 : Int32) (v4 : Int32) (v5 : Int32) (I : jI) (L : jL), jk Z v0 12 → K73 v0 v1 v2 v3 v4 v5 I L → jJ G 9 73 [(0, .ref v0), (1, .int v1), (2, .int v2), (3, .int v3), (4, .int v4), (5, .int v5)] [] Z I L 0 0) : ∀ (n : Nat) (v0 : Nat) (v1 : Int32) (v2 : Int32) (v3 : Int32) (v4 : Int32) (v5 : Int32) (v6 : Int32) (v7 : Int32) (v8 : Int32) (I : jI) (L : jL), jk Z v0 12 → f_X12_dies_L115 K73 Z Q n v0 v1 v2 v3 v4 v5 v6 v7 v8 I L → jJ G 9 115 [(0, .ref v0), (1, .int v1), (2, .int v2), (3, .int v3), (4, .int v4), (5, .int v5), (6, .int v6), (7, .int v7), (8, .int v8)] [] Z I L 0 0 := by
  intro n
  induction n with
  | zero => intro v0 v1 v2 v3 v4 v5 v6 v7 v8 I L _ h; exact h.elim
  | succ n ih =>
    intro v0 v1 v2 v3 v4 v5 v6 v7 v8 I L kv0 h
    have h : (((8 : Int32) ≤ v8 → (∀ x6 : Int32, x6 = (v4 + v6) → (∀ x7 : Int32, x7 = v5 + 1 → K73 v0 v1 v2 v3 x6 x7 I L))) ∧ (¬ ((8 : Int32) ≤ v8) → (f_X12_has v2 v8 Z I L (fun r13 I10 L11 => ((¬ r13 = 0 → (∀ b15 : Nat, jr Z v0 5 = some b15 → (vp_in (((8 : Int32) * v5) + v8) 192 ∧ (¬ v3 = 0 ∧ (¬ v3 = 0 ∧ (((v6 - v6 / v3 * v3) ≤ v7 → f_X12_dies_b166 K73 (f_X12_dies_L115 K73 Z Q n) Z Q v0 v1 v2 v3 v4 v5 v6 v7 v8 b15 (((8 : Int32) * v5) + v8) (I10 b15 (((8 : Int32) * v5) + v8).toNatClampNeg) (v6 / v3) (0 : Int32) I10 L11) ∧ (¬ ((v6 - v6 / v3 * v3) ≤ v7) → f_X12_dies_b166 K73 (f_X12_dies_L115 K73 Z Q n) Z Q v0 v1 v2 v3 v4 v5 v6 v7 v8 b15 (((8 : Int32) * v5) + v8) (I10 b15 (((8 : Int32) * v5) + v8).toNatClampNeg) (v6 / v3) (1 : Int32) I10 L11))))))) ∧ (r13 = 0 → f_X12_dies_b172 K73 (f_X12_dies_L115 K73 Z Q n) Z Q v0 v1 v2 v3 v4 v5 v6 v7 v8 I10 L11)))))) := h
    obtain ⟨K115, eK115⟩ : ∃ K : Nat → Int32 → Int32 → Int32 → Int32 → Int32 → Int32 → Int32 → Int32 → jI → jL → Prop, K = f_X12_dies_L115 K73 Z Q n := ⟨_, rfl⟩
    have hK115 := ih
    clear eK115 K115
    generalize f_X12_dies_L115 K73 Z Q n = K115 at hK115 h
    refine j_iload E dX12_dies_115 8 rfl ?_
    refine j_bipush E (v := 8) dX12_dies_117 (by decide) ?_
    refine j_icmp_ge E 178 dX12_dies_119 (by decide) (fun c5 => ?_) (fun c5 => ?_)
    · have h := h.1 c5
      refine j_iload E dX12_dies_178 4 rfl ?_
      refine j_iload E dX12_dies_180 6 rfl ?_
      refine j_iadd E dX12_dies_182 ?_
      refine j_topi (fun x6 ex6 => ?_)
      have h := h x6 ex6
      refine j_istore E 4 [(4, .int x6), (0, .ref v0), (1, .int v1), (2, .int v2), (3, .int v3), (5, .int v5), (6, .int v6), (7, .int v7), (8, .int v8)] dX12_dies_183 (by decide) rfl ?_
      obtain ⟨x7, ex7⟩ : ∃ y : Int32, y = v5 + 1 := ⟨_, rfl⟩
      have h := h x7 ex7
      refine j_iinc E x7 [(5, .int x7), (4, .int x6), (0, .ref v0), (1, .int v1), (2, .int v2), (3, .int v3), (6, .int v6), (7, .int v7), (8, .int v8)] dX12_dies_185 5 rfl (by rw [ex7]; rfl) (by decide) rfl ?_
      refine j_goto E 73 dX12_dies_188 (by decide) ?_
      refine j_sub [2, 3, 4, 5, 1, 0] rfl ?_
      exact hK73 v0 v1 v2 v3 x6 x7 I L kv0 h
    · have h := h.2 c5
      refine j_iload_n E dX12_dies_122 2 rfl ?_
      refine j_iload E dX12_dies_123 8 rfl ?_
      refine j_callS E [.int v2, .int v8] [] (c_X12_has (gL G) (gD G) (gY G) v2 v8 Z I L _ hZ  h) (gwS W_804 W_805 W_679 W_803) rfl fy_X12_has ⟨by decide, by decide⟩ rfl rfl (Nat.le_of_ble_eq_true rfl) ⟨Nat.zero_le _, Nat.zero_le _⟩ dX12_dies_125 (fun v8 Z9 I10 L11 q12 => ?_)
      obtain ⟨rfl, r13, rfl, zr13, h⟩ := q12
      show jJ G 9 128 [(0, .ref v0), (1, .int v1), (2, .int v2), (3, .int v3), (4, .int v4), (5, .int v5), (6, .int v6), (7, .int v7), (8, .int v8)] [.int r13] Z I10 L11 0 0
      refine j_if_ne E 134 dX12_dies_128 (by decide) (fun c14 => ?_) (fun c14 => ?_)
      · have h := h.1 c14
        refine j_aload_n E dX12_dies_134 0 rfl ?_
        obtain ⟨b15, eb15, kb15, lb15⟩ := sh_f hZ kv0 (j := 5) (k := 14) (m := 192) rfl
        have h := h b15 eb15
        refine j_getr E 12 5 rfl rfl (by decide) (by decide) (iw iT_12) rfl rfl (tw W_683) kv0 eb15 dX12_dies_135 ?_
        refine j_bipush E (v := 8) dX12_dies_138 (by decide) ?_
        refine j_iload E dX12_dies_140 5 rfl ?_
        refine j_imul E dX12_dies_142 ?_
        refine j_iload E dX12_dies_143 8 rfl ?_
        refine j_iadd E dX12_dies_145 ?_
        refine j_dup2_11 E dX12_dies_146 rfl rfl ?_
        obtain ⟨o16, h⟩ := h
        refine j_iald E kb15 (by rw [lb15]; exact o16) dX12_dies_147 ?_
        refine j_iload E dX12_dies_148 6 rfl ?_
        refine j_iload_n E dX12_dies_150 3 rfl ?_
        obtain ⟨o17, h⟩ := h
        refine j_idiv E dX12_dies_151 o17 ?_
        refine j_iload E dX12_dies_152 7 rfl ?_
        refine j_iload E dX12_dies_154 6 rfl ?_
        refine j_iload_n E dX12_dies_156 3 rfl ?_
        obtain ⟨o18, h⟩ := h
        refine j_irem E dX12_dies_157 o18 ?_
        refine j_icmp_ge E 165 dX12_dies_158 (by decide) (fun c19 => ?_) (fun c19 => ?_)
        · have h := h.1 c19
          refine j_iconst E (v := 0) dX12_dies_165 (by decide) ?_
          refine j_sub [0, 1, 2, 3, 4, 5, 6, 7, 8] rfl ?_
          exact m_X12_dies_b166 E hZ K73 hK73 K115 hK115 v0 v1 v2 v3 v4 v5 v6 v7 v8 b15 (((8 : Int32) * v5) + v8) (I10 b15 (((8 : Int32) * v5) + v8).toNatClampNeg) (v6 / v3) (0 : Int32) I10 L11 kv0 kb15 h
        · have h := h.2 c19
          refine j_iconst E (v := 1) dX12_dies_161 (by decide) ?_
          refine j_goto E 166 dX12_dies_162 (by decide) ?_
          refine j_sub [0, 1, 2, 3, 4, 5, 6, 7, 8] rfl ?_
          exact m_X12_dies_b166 E hZ K73 hK73 K115 hK115 v0 v1 v2 v3 v4 v5 v6 v7 v8 b15 (((8 : Int32) * v5) + v8) (I10 b15 (((8 : Int32) * v5) + v8).toNatClampNeg) (v6 / v3) (1 : Int32) I10 L11 kv0 kb15 h
      · have h := h.2 c14
        refine j_goto E 172 dX12_dies_131 (by decide) ?_
        refine j_sub [0, 1, 2, 3, 4, 5, 6, 7, 8] rfl ?_
        exact m_X12_dies_b172 E hZ K73 hK73 K115 hK115 v0 v1 v2 v3 v4 v5 v6 v7 v8 I10 L11 kv0 h
set_option maxRecDepth 100000 in
def f_X12_dies_L73  (Z : jZ) (Q : Int32 → jI → jL → Prop) : Nat → Nat → Int32 → Int32 → Int32 → Int32 → Int32 → jI → jL → Prop
  | 0 => fun _ _ _ _ _ _ _ _ => False
  | n + 1 => fun v0 v1 v2 v3 v4 v5 I L => (((I v0 0) ≤ v5 → ((v4 ≤ 0 → Q v4 I L) ∧ (¬ (v4 ≤ 0) → (f_X12_rememberParts v0 Z I L (fun I24 L25 => Q v4 I24 L25))))) ∧ (¬ ((I v0 0) ≤ v5) → (∀ b27 : Nat, jr Z v0 5 = some b27 → (vp_in (((8 : Int32) * v5) + v1) 192 ∧ (∀ x29 : Int32, x29 = (I b27 (((8 : Int32) * v5) + v1).toNatClampNeg) → (∀ b30 : Nat, jr Z v0 5 = some b30 → (vp_in (((8 : Int32) * v5) + v1) 192 ∧ (∀ I32 : jI, I32 = jpI I b30 (((8 : Int32) * v5) + v1).toNatClampNeg (0 : Int32) → (∃ m115 : Nat, f_X12_dies_L115 (f_X12_dies_L73 Z Q n) Z Q m115 v0 v1 v2 v3 v4 v5 x29 (0 : Int32) (0 : Int32) I32 L)))))))))
set_option maxHeartbeats 4000000 in
set_option maxRecDepth 100000 in
theorem m_X12_dies_L73 {G : jG} {Z : jZ} {Q : Int32 → jI → jL → Prop} (E : jE G cX12_dies RX12 w_X12_dies 9 (some .int) { frames := 2, cells := 0, slots := 0, locals := 42 } (rtI Z Q)) (hZ : SH Z)  : ∀ (n : Nat) (v0 : Nat) (v1 : Int32) (v2 : Int32) (v3 : Int32) (v4 : Int32) (v5 : Int32) (I : jI) (L : jL), jk Z v0 12 → f_X12_dies_L73  Z Q n v0 v1 v2 v3 v4 v5 I L → jJ G 9 73 [(0, .ref v0), (1, .int v1), (2, .int v2), (3, .int v3), (4, .int v4), (5, .int v5)] [] Z I L 0 0 := by
  intro n
  induction n with
  | zero => intro v0 v1 v2 v3 v4 v5 I L _ h; exact h.elim
  | succ n ih =>
    intro v0 v1 v2 v3 v4 v5 I L kv0 h
    have h : (((I v0 0) ≤ v5 → ((v4 ≤ 0 → Q v4 I L) ∧ (¬ (v4 ≤ 0) → (f_X12_rememberParts v0 Z I L (fun I24 L25 => Q v4 I24 L25))))) ∧ (¬ ((I v0 0) ≤ v5) → (∀ b27 : Nat, jr Z v0 5 = some b27 → (vp_in (((8 : Int32) * v5) + v1) 192 ∧ (∀ x29 : Int32, x29 = (I b27 (((8 : Int32) * v5) + v1).toNatClampNeg) → (∀ b30 : Nat, jr Z v0 5 = some b30 → (vp_in (((8 : Int32) * v5) + v1) 192 ∧ (∀ I32 : jI, I32 = jpI I b30 (((8 : Int32) * v5) + v1).toNatClampNeg (0 : Int32) → (∃ m115 : Nat, f_X12_dies_L115 (f_X12_dies_L73 Z Q n) Z Q m115 v0 v1 v2 v3 v4 v5 x29 (0 : Int32) (0 : Int32) I32 L))))))))) := h
    obtain ⟨K73, eK73⟩ : ∃ K : Nat → Int32 → Int32 → Int32 → Int32 → Int32 → jI → jL → Prop, K = f_X12_dies_L73  Z Q n := ⟨_, rfl⟩
    have hK73 := ih
    clear eK73 K73
    generalize f_X12_dies_L73  Z Q n = K73 at hK73 h
    refine j_iload E dX12_dies_73 5 rfl ?_
    refine j_aload_n E dX12_dies_75 0 rfl ?_
    refine j_geti E 12 0 rfl rfl (by decide) (by decide) (iw iT_12) rfl rfl (tw W_677) kv0 dX12_dies_76 ?_
    refine j_icmp_ge E 191 dX12_dies_79 (by decide) (fun c20 => ?_) (fun c20 => ?_)
    · have h := h.1 c20
      refine j_iload E dX12_dies_191 4 rfl ?_
      refine j_if_le E 200 dX12_dies_193 (by decide) (fun c21 => ?_) (fun c21 => ?_)
      · have h := h.1 c21
        refine j_iload E dX12_dies_200 4 rfl ?_
        exact j_ireturn E ⟨rfl, _, rfl, h⟩ (Nat.zero_le _) (Nat.zero_le _) dX12_dies_202
      · have h := h.2 c21
        refine j_aload_n E dX12_dies_196 0 rfl ?_
        refine j_callV E [] [] (c_X12_rememberParts (gL G) (gD G) (gY G) v0 Z I L _ hZ kv0 h) (gwV W_876 W_877 W_878 W_679 W_875) rfl ⟨rfl, fy_X12_rememberParts⟩ ⟨by decide, by decide⟩ (c := 12) rfl (by decide) kv0 rfl rfl (Nat.le_of_ble_eq_true rfl) ⟨Nat.zero_le _, Nat.zero_le _⟩ dX12_dies_197 (fun v22 Z23 I24 L25 q26 => ?_)
        obtain ⟨rfl, rfl, h⟩ := q26
        show jJ G 9 200 [(0, .ref v0), (1, .int v1), (2, .int v2), (3, .int v3), (4, .int v4), (5, .int v5)] [] Z I24 L25 0 0
        refine j_iload E dX12_dies_200 4 rfl ?_
        exact j_ireturn E ⟨rfl, _, rfl, h⟩ (Nat.zero_le _) (Nat.zero_le _) dX12_dies_202
    · have h := h.2 c20
      refine j_aload_n E dX12_dies_82 0 rfl ?_
      obtain ⟨b27, eb27, kb27, lb27⟩ := sh_f hZ kv0 (j := 5) (k := 14) (m := 192) rfl
      have h := h b27 eb27
      refine j_getr E 12 5 rfl rfl (by decide) (by decide) (iw iT_12) rfl rfl (tw W_683) kv0 eb27 dX12_dies_83 ?_
      refine j_bipush E (v := 8) dX12_dies_86 (by decide) ?_
      refine j_iload E dX12_dies_88 5 rfl ?_
      refine j_imul E dX12_dies_90 ?_
      refine j_iload_n E dX12_dies_91 1 rfl ?_
      refine j_iadd E dX12_dies_92 ?_
      obtain ⟨o28, h⟩ := h
      refine j_iald E kb27 (by rw [lb27]; exact o28) dX12_dies_93 ?_
      refine j_topi (fun x29 ex29 => ?_)
      have h := h x29 ex29
      refine j_istore E 6 [(6, .int x29), (0, .ref v0), (1, .int v1), (2, .int v2), (3, .int v3), (4, .int v4), (5, .int v5)] dX12_dies_94 (by decide) rfl ?_
      refine j_aload_n E dX12_dies_96 1 rfl ?_
      obtain ⟨b30, eb30, kb30, lb30⟩ := sh_f hZ kv0 (j := 5) (k := 14) (m := 192) rfl
      have h := h b30 eb30
      refine j_getr E 12 5 rfl rfl (by decide) (by decide) (iw iT_12) rfl rfl (tw W_683) kv0 eb30 dX12_dies_97 ?_
      refine j_bipush E (v := 8) dX12_dies_100 (by decide) ?_
      refine j_iload E dX12_dies_102 6 rfl ?_
      refine j_imul E dX12_dies_104 ?_
      refine j_iload_n E dX12_dies_105 2 rfl ?_
      refine j_iadd E dX12_dies_106 ?_
      refine j_iconst E (v := 0) dX12_dies_107 (by decide) ?_
      obtain ⟨o31, h⟩ := h
      refine j_iast E kb30 (by rw [lb30]; exact o31) dX12_dies_108 ?_
      refine j_nmI (fun I32 eI32 => ?_)
      have h := h I32 eI32
      refine j_iconst E (v := 0) dX12_dies_109 (by decide) ?_
      refine j_istore E 7 [(7, .int (0 : Int32)), (6, .int x29), (0, .ref v0), (1, .int v1), (2, .int v2), (3, .int v3), (4, .int v4), (5, .int v5)] dX12_dies_110 (by decide) rfl ?_
      refine j_iconst E (v := 0) dX12_dies_112 (by decide) ?_
      refine j_istore E 8 [(8, .int (0 : Int32)), (7, .int (0 : Int32)), (6, .int x29), (0, .ref v0), (1, .int v1), (2, .int v2), (3, .int v3), (4, .int v4), (5, .int v5)] dX12_dies_113 (by decide) rfl ?_
      obtain ⟨n33, h⟩ := h
      refine j_sub [3, 4, 5, 6, 7, 8, 2, 1, 0] rfl ?_
      exact m_X12_dies_L115 E hZ K73 hK73 n33 v0 v1 v2 v3 v4 v5 x29 (0 : Int32) (0 : Int32) I32 L kv0 h
set_option maxRecDepth 100000 in
def f_X12_dies_L35  (Z : jZ) (Q : Int32 → jI → jL → Prop) : Nat → Nat → Int32 → Int32 → Int32 → jI → jL → Prop
  | 0 => fun _ _ _ _ _ _ => False
  | n + 1 => fun v0 v1 v2 v3 I L => (∀ b34 : Nat, jr Z v0 54 = some b34 → (((192 : Int32) ≤ v3 → (f_J6_bitCount_0f7a4 v2 Z I L (fun r41 I38 L39 => (∃ m73 : Nat, f_X12_dies_L73  Z Q m73 v0 v1 v2 r41 (0 : Int32) (0 : Int32) I38 L39)))) ∧ (¬ ((192 : Int32) ≤ v3) → (∀ b43 : Nat, jr Z v0 54 = some b43 → (∀ b44 : Nat, jr Z v0 5 = some b44 → (vp_in v3 192 ∧ (vp_in v3 192 ∧ (∀ I47 : jI, I47 = jpI I b43 v3.toNatClampNeg (I b44 v3.toNatClampNeg) → (∀ x48 : Int32, x48 = v3 + 1 → (f_X12_dies_L35 Z Q n) v0 v1 v2 x48 I47 L)))))))))
set_option maxHeartbeats 4000000 in
set_option maxRecDepth 100000 in
theorem m_X12_dies_L35 {G : jG} {Z : jZ} {Q : Int32 → jI → jL → Prop} (E : jE G cX12_dies RX12 w_X12_dies 9 (some .int) { frames := 2, cells := 0, slots := 0, locals := 42 } (rtI Z Q)) (hZ : SH Z)  : ∀ (n : Nat) (v0 : Nat) (v1 : Int32) (v2 : Int32) (v3 : Int32) (I : jI) (L : jL), jk Z v0 12 → f_X12_dies_L35  Z Q n v0 v1 v2 v3 I L → jJ G 9 35 [(0, .ref v0), (1, .int v1), (2, .int v2), (3, .int v3)] [] Z I L 0 0 := by
  intro n
  induction n with
  | zero => intro v0 v1 v2 v3 I L _ h; exact h.elim
  | succ n ih =>
    intro v0 v1 v2 v3 I L kv0 h
    have h : (∀ b34 : Nat, jr Z v0 54 = some b34 → (((192 : Int32) ≤ v3 → (f_J6_bitCount_0f7a4 v2 Z I L (fun r41 I38 L39 => (∃ m73 : Nat, f_X12_dies_L73  Z Q m73 v0 v1 v2 r41 (0 : Int32) (0 : Int32) I38 L39)))) ∧ (¬ ((192 : Int32) ≤ v3) → (∀ b43 : Nat, jr Z v0 54 = some b43 → (∀ b44 : Nat, jr Z v0 5 = some b44 → (vp_in v3 192 ∧ (vp_in v3 192 ∧ (∀ I47 : jI, I47 = jpI I b43 v3.toNatClampNeg (I b44 v3.toNatClampNeg) → (∀ x48 : Int32, x48 = v3 + 1 → (f_X12_dies_L35 Z Q n) v0 v1 v2 x48 I47 L))))))))) := h
    obtain ⟨K35, eK35⟩ : ∃ K : Nat → Int32 → Int32 → Int32 → jI → jL → Prop, K = f_X12_dies_L35  Z Q n := ⟨_, rfl⟩
    have hK35 := ih
    clear eK35 K35
    generalize f_X12_dies_L35  Z Q n = K35 at hK35 h
    refine j_iload_n E dX12_dies_35 3 rfl ?_
    refine j_aload_n E dX12_dies_36 0 rfl ?_
    obtain ⟨b34, eb34, kb34, lb34⟩ := sh_f hZ kv0 (j := 54) (k := 14) (m := 192) rfl
    have h := h b34 eb34
    refine j_getr E 12 54 rfl rfl (by decide) (by decide) (iw iT_12) rfl rfl (tw W_874) kv0 eb34 dX12_dies_37 ?_
    refine j_alen14 E (v := 192) kb34 (by rw [lb34]; rfl) dX12_dies_40 ?_
    refine j_icmp_ge E 62 dX12_dies_41 (by decide) (fun c35 => ?_) (fun c35 => ?_)
    · have h := h.1 c35
      refine j_iload_n E dX12_dies_62 2 rfl ?_
      refine j_callS E [.int v2] [] (c_J6_bitCount_0f7a4 (gL G) (gD G) (gY G) v2 Z I L _ hZ  h) (gwS W_879 W_236 W_234 W_233) rfl fy_J6_bitCount_0f7a4 ⟨by decide, by decide⟩ rfl rfl (Nat.le_of_ble_eq_true rfl) ⟨Nat.zero_le _, Nat.zero_le _⟩ dX12_dies_63 (fun v36 Z37 I38 L39 q40 => ?_)
      obtain ⟨rfl, r41, rfl, h⟩ := q40
      show jJ G 9 66 [(0, .ref v0), (1, .int v1), (2, .int v2), (3, .int v3)] [.int r41] Z I38 L39 0 0
      refine j_istore_n E 3 [(3, .int r41), (0, .ref v0), (1, .int v1), (2, .int v2)] dX12_dies_66 rfl (by decide) rfl ?_
      refine j_iconst E (v := 0) dX12_dies_67 (by decide) ?_
      refine j_istore E 4 [(4, .int (0 : Int32)), (3, .int r41), (0, .ref v0), (1, .int v1), (2, .int v2)] dX12_dies_68 (by decide) rfl ?_
      refine j_iconst E (v := 0) dX12_dies_70 (by decide) ?_
      refine j_istore E 5 [(5, .int (0 : Int32)), (4, .int (0 : Int32)), (3, .int r41), (0, .ref v0), (1, .int v1), (2, .int v2)] dX12_dies_71 (by decide) rfl ?_
      obtain ⟨n42, h⟩ := h
      refine j_sub [3, 4, 5, 2, 1, 0] rfl ?_
      exact m_X12_dies_L73 E hZ  n42 v0 v1 v2 r41 (0 : Int32) (0 : Int32) I38 L39 kv0 h
    · have h := h.2 c35
      refine j_aload_n E dX12_dies_44 0 rfl ?_
      obtain ⟨b43, eb43, kb43, lb43⟩ := sh_f hZ kv0 (j := 54) (k := 14) (m := 192) rfl
      have h := h b43 eb43
      refine j_getr E 12 54 rfl rfl (by decide) (by decide) (iw iT_12) rfl rfl (tw W_874) kv0 eb43 dX12_dies_45 ?_
      refine j_iload_n E dX12_dies_48 3 rfl ?_
      refine j_aload_n E dX12_dies_49 0 rfl ?_
      obtain ⟨b44, eb44, kb44, lb44⟩ := sh_f hZ kv0 (j := 5) (k := 14) (m := 192) rfl
      have h := h b44 eb44
      refine j_getr E 12 5 rfl rfl (by decide) (by decide) (iw iT_12) rfl rfl (tw W_683) kv0 eb44 dX12_dies_50 ?_
      refine j_iload_n E dX12_dies_53 3 rfl ?_
      obtain ⟨o45, h⟩ := h
      refine j_iald E kb44 (by rw [lb44]; exact o45) dX12_dies_54 ?_
      obtain ⟨o46, h⟩ := h
      refine j_iast E kb43 (by rw [lb43]; exact o46) dX12_dies_55 ?_
      refine j_nmI (fun I47 eI47 => ?_)
      have h := h I47 eI47
      obtain ⟨x48, ex48⟩ : ∃ y : Int32, y = v3 + 1 := ⟨_, rfl⟩
      have h := h x48 ex48
      refine j_iinc E x48 [(3, .int x48), (0, .ref v0), (1, .int v1), (2, .int v2)] dX12_dies_56 3 rfl (by rw [ex48]; rfl) (by decide) rfl ?_
      refine j_goto E 35 dX12_dies_59 (by decide) ?_
      refine j_sub [1, 2, 3, 0] rfl ?_
      exact hK35 v0 v1 v2 x48 I47 L kv0 h
set_option maxRecDepth 100000 in
def f_X12_dies (v0 : Nat) (v1 : Int32) (v2 : Int32) (Z : jZ) (I : jI) (L : jL) (Q : Int32 → jI → jL → Prop) : Prop := (∀ I49 : jI, I49 = jpI I v0 22 (0 : Int32) → (f_X12_isFamily v1 Z I49 L (fun r55 I52 L53 => ((r55 = 0 → Q (-1 : Int32) I52 L53) ∧ (¬ (r55 = 0) → (f_X12_in v2 (1 : Int32) (255 : Int32) Z I52 L53 (fun r62 I59 L60 => ((r62 = 0 → Q (-1 : Int32) I59 L60) ∧ (¬ (r62 = 0) → (f_X12_has v2 v1 Z I59 L60 (fun r69 I66 L67 => ((r69 = 0 → (∃ m35 : Nat, f_X12_dies_L35  Z Q m35 v0 v1 v2 (0 : Int32) I66 L67)) ∧ (¬ (r69 = 0) → Q (-1 : Int32) I66 L67)))))))))))))
set_option maxHeartbeats 4000000 in
set_option maxRecDepth 100000 in
theorem c_X12_dies (l : Launch) (D : va_G) (cy : jC) (v0 : Nat) (v1 : Int32) (v2 : Int32) (Z : jZ) (I : jI) (L : jL) (Q : Int32 → jI → jL → Prop) (hZ : SH Z) (kv0 : jk Z v0 12) (h : f_X12_dies v0 v1 v2 Z I L Q) : jCt l yX12_dies w_X12_dies { frames := 2, cells := 0, slots := 0, locals := 42 } D cy [.ref v0, .int v1, .int v2] Z I L (rtI Z Q) := by
  refine jCt_of (cc := cX12_dies) (maxL := 9) (ret := (some .int)) (by decide +kernel) rfl (Nat.le_of_ble_eq_true rfl) ?_
  intro G eD eY eL E
  subst eD; subst eY; subst eL
  have E : jE G cX12_dies RX12 w_X12_dies 9 (some .int) { frames := 2, cells := 0, slots := 0, locals := 42 } (rtI Z Q) := E
  show jJ G 9 0 [(0, .ref v0), (1, .int v1), (2, .int v2)] [] Z I L 0 0
  refine j_aload_n E dX12_dies_0 0 rfl ?_
  refine j_iconst E (v := 0) dX12_dies_1 (by decide) ?_
  refine j_puti E 12 22 rfl rfl (by decide) (by decide) (iw iT_12) tyX12_ok nmX12 rfl rfl (tw W_674) rfl rfl rfl kv0 dX12_dies_2 ?_
  refine j_nmI (fun I49 eI49 => ?_)
  have h := h I49 eI49
  refine j_iload_n E dX12_dies_5 1 rfl ?_
  refine j_callS E [.int v1] [] (c_X12_isFamily (gL G) (gD G) (gY G) v1 Z I49 L _ hZ  h) (gwS W_758 W_759 W_679 W_757) rfl fy_X12_isFamily ⟨by decide, by decide⟩ rfl rfl (Nat.le_of_ble_eq_true rfl) ⟨Nat.zero_le _, Nat.zero_le _⟩ dX12_dies_6 (fun v50 Z51 I52 L53 q54 => ?_)
  obtain ⟨rfl, r55, rfl, zr55, h⟩ := q54
  show jJ G 9 9 [(0, .ref v0), (1, .int v1), (2, .int v2)] [.int r55] Z I52 L53 0 0
  refine j_if_eq E 31 dX12_dies_9 (by decide) (fun c56 => ?_) (fun c56 => ?_)
  · have h := h.1 c56
    refine j_iconst E (v := -1) dX12_dies_31 (by decide) ?_
    exact j_ireturn E ⟨rfl, _, rfl, h⟩ (Nat.zero_le _) (Nat.zero_le _) dX12_dies_32
  · have h := h.2 c56
    refine j_iload_n E dX12_dies_12 2 rfl ?_
    refine j_iconst E (v := 1) dX12_dies_13 (by decide) ?_
    refine j_sipush E (v := 255) dX12_dies_14 (by decide) ?_
    refine j_callS E [.int v2, .int (1 : Int32), .int (255 : Int32)] [] (c_X12_in (gL G) (gD G) (gY G) v2 (1 : Int32) (255 : Int32) Z I52 L53 _ hZ  h) (gwS W_680 W_681 W_679 W_678) rfl fy_X12_in ⟨by decide, by decide⟩ rfl rfl (Nat.le_of_ble_eq_true rfl) ⟨Nat.zero_le _, Nat.zero_le _⟩ dX12_dies_17 (fun v57 Z58 I59 L60 q61 => ?_)
    obtain ⟨rfl, r62, rfl, zr62, h⟩ := q61
    show jJ G 9 20 [(0, .ref v0), (1, .int v1), (2, .int v2)] [.int r62] Z I59 L60 0 0
    refine j_if_eq E 31 dX12_dies_20 (by decide) (fun c63 => ?_) (fun c63 => ?_)
    · have h := h.1 c63
      refine j_iconst E (v := -1) dX12_dies_31 (by decide) ?_
      exact j_ireturn E ⟨rfl, _, rfl, h⟩ (Nat.zero_le _) (Nat.zero_le _) dX12_dies_32
    · have h := h.2 c63
      refine j_iload_n E dX12_dies_23 2 rfl ?_
      refine j_iload_n E dX12_dies_24 1 rfl ?_
      refine j_callS E [.int v2, .int v1] [] (c_X12_has (gL G) (gD G) (gY G) v2 v1 Z I59 L60 _ hZ  h) (gwS W_804 W_805 W_679 W_803) rfl fy_X12_has ⟨by decide, by decide⟩ rfl rfl (Nat.le_of_ble_eq_true rfl) ⟨Nat.zero_le _, Nat.zero_le _⟩ dX12_dies_25 (fun v64 Z65 I66 L67 q68 => ?_)
      obtain ⟨rfl, r69, rfl, zr69, h⟩ := q68
      show jJ G 9 28 [(0, .ref v0), (1, .int v1), (2, .int v2)] [.int r69] Z I66 L67 0 0
      refine j_if_eq E 33 dX12_dies_28 (by decide) (fun c70 => ?_) (fun c70 => ?_)
      · have h := h.1 c70
        refine j_iconst E (v := 0) dX12_dies_33 (by decide) ?_
        refine j_istore_n E 3 [(3, .int (0 : Int32)), (0, .ref v0), (1, .int v1), (2, .int v2)] dX12_dies_34 rfl (by decide) rfl ?_
        obtain ⟨n71, h⟩ := h
        refine j_sub [1, 2, 3, 0] rfl ?_
        exact m_X12_dies_L35 E hZ  n71 v0 v1 v2 (0 : Int32) I66 L67 kv0 h
      · have h := h.2 c70
        refine j_iconst E (v := -1) dX12_dies_31 (by decide) ?_
        exact j_ireturn E ⟨rfl, _, rfl, h⟩ (Nat.zero_le _) (Nat.zero_le _) dX12_dies_32
set_option maxRecDepth 100000 in
def f_X12_undo_L26  (Z : jZ) (Q : Int32 → jI → jL → Prop) : Nat → Nat → Int32 → jI → jL → Prop
  | 0 => fun _ _ _ _ => False
  | n + 1 => fun v0 v1 I L => (((192 : Int32) ≤ v1 → Q (I v0 52) I L) ∧ (¬ ((192 : Int32) ≤ v1) → (∀ b2 : Nat, jr Z v0 5 = some b2 → (∀ b3 : Nat, jr Z v0 53 = some b3 → (vp_in (((192 : Int32) * (I v0 52)) + v1) 1536 ∧ (vp_in v1 192 ∧ (∀ I6 : jI, I6 = jpI I b2 v1.toNatClampNeg (I b3 (((192 : Int32) * (I v0 52)) + v1).toNatClampNeg) → (∀ x7 : Int32, x7 = v1 + 1 → (f_X12_undo_L26 Z Q n) v0 x7 I6 L))))))))
set_option maxHeartbeats 4000000 in
set_option maxRecDepth 100000 in
theorem m_X12_undo_L26 {G : jG} {Z : jZ} {Q : Int32 → jI → jL → Prop} (E : jE G cX12_undo RX12 w_X12_undo 2 (some .int) { frames := 0, cells := 0, slots := 0, locals := 0 } (rtI Z Q)) (hZ : SH Z)  : ∀ (n : Nat) (v0 : Nat) (v1 : Int32) (I : jI) (L : jL), jk Z v0 12 → f_X12_undo_L26  Z Q n v0 v1 I L → jJ G 2 26 [(0, .ref v0), (1, .int v1)] [] Z I L 0 0 := by
  intro n
  induction n with
  | zero => intro v0 v1 I L _ h; exact h.elim
  | succ n ih =>
    intro v0 v1 I L kv0 h
    have h : (((192 : Int32) ≤ v1 → Q (I v0 52) I L) ∧ (¬ ((192 : Int32) ≤ v1) → (∀ b2 : Nat, jr Z v0 5 = some b2 → (∀ b3 : Nat, jr Z v0 53 = some b3 → (vp_in (((192 : Int32) * (I v0 52)) + v1) 1536 ∧ (vp_in v1 192 ∧ (∀ I6 : jI, I6 = jpI I b2 v1.toNatClampNeg (I b3 (((192 : Int32) * (I v0 52)) + v1).toNatClampNeg) → (∀ x7 : Int32, x7 = v1 + 1 → (f_X12_undo_L26 Z Q n) v0 x7 I6 L)))))))) := h
    obtain ⟨K26, eK26⟩ : ∃ K : Nat → Int32 → jI → jL → Prop, K = f_X12_undo_L26  Z Q n := ⟨_, rfl⟩
    have hK26 := ih
    clear eK26 K26
    generalize f_X12_undo_L26  Z Q n = K26 at hK26 h
    refine j_iload_n E dX12_undo_26 1 rfl ?_
    refine j_sipush E (v := 192) dX12_undo_27 (by decide) ?_
    refine j_icmp_ge E 60 dX12_undo_30 (by decide) (fun c1 => ?_) (fun c1 => ?_)
    · have h := h.1 c1
      refine j_aload_n E dX12_undo_60 0 rfl ?_
      refine j_geti E 12 52 rfl rfl (by decide) (by decide) (iw iT_12) rfl rfl (tw W_724) kv0 dX12_undo_61 ?_
      exact j_ireturn E ⟨rfl, _, rfl, h⟩ (Nat.zero_le _) (Nat.zero_le _) dX12_undo_64
    · have h := h.2 c1
      refine j_aload_n E dX12_undo_33 0 rfl ?_
      obtain ⟨b2, eb2, kb2, lb2⟩ := sh_f hZ kv0 (j := 5) (k := 14) (m := 192) rfl
      have h := h b2 eb2
      refine j_getr E 12 5 rfl rfl (by decide) (by decide) (iw iT_12) rfl rfl (tw W_683) kv0 eb2 dX12_undo_34 ?_
      refine j_iload_n E dX12_undo_37 1 rfl ?_
      refine j_aload_n E dX12_undo_38 0 rfl ?_
      obtain ⟨b3, eb3, kb3, lb3⟩ := sh_f hZ kv0 (j := 53) (k := 14) (m := 1536) rfl
      have h := h b3 eb3
      refine j_getr E 12 53 rfl rfl (by decide) (by decide) (iw iT_12) rfl rfl (tw W_873) kv0 eb3 dX12_undo_39 ?_
      refine j_sipush E (v := 192) dX12_undo_42 (by decide) ?_
      refine j_aload_n E dX12_undo_45 0 rfl ?_
      refine j_geti E 12 52 rfl rfl (by decide) (by decide) (iw iT_12) rfl rfl (tw W_724) kv0 dX12_undo_46 ?_
      refine j_imul E dX12_undo_49 ?_
      refine j_iload_n E dX12_undo_50 1 rfl ?_
      refine j_iadd E dX12_undo_51 ?_
      obtain ⟨o4, h⟩ := h
      refine j_iald E kb3 (by rw [lb3]; exact o4) dX12_undo_52 ?_
      obtain ⟨o5, h⟩ := h
      refine j_iast E kb2 (by rw [lb2]; exact o5) dX12_undo_53 ?_
      refine j_nmI (fun I6 eI6 => ?_)
      have h := h I6 eI6
      obtain ⟨x7, ex7⟩ : ∃ y : Int32, y = v1 + 1 := ⟨_, rfl⟩
      have h := h x7 ex7
      refine j_iinc E x7 [(1, .int x7), (0, .ref v0)] dX12_undo_54 1 rfl (by rw [ex7]; rfl) (by decide) rfl ?_
      refine j_goto E 26 dX12_undo_57 (by decide) ?_
      refine j_sub [1, 0] rfl ?_
      exact hK26 v0 x7 I6 L kv0 h
set_option maxRecDepth 100000 in
def f_X12_undo (v0 : Nat) (Z : jZ) (I : jI) (L : jL) (Q : Int32 → jI → jL → Prop) : Prop := (∀ I8 : jI, I8 = jpI I v0 22 (0 : Int32) → ((¬ (I8 v0 52) = 0 → (∀ I10 : jI, I10 = jpI I8 v0 52 ((I8 v0 52) - (1 : Int32)) → (∃ m26 : Nat, f_X12_undo_L26  Z Q m26 v0 (0 : Int32) I10 L))) ∧ ((I8 v0 52) = 0 → Q (-1 : Int32) I8 L)))
set_option maxHeartbeats 4000000 in
set_option maxRecDepth 100000 in
theorem c_X12_undo (l : Launch) (D : va_G) (cy : jC) (v0 : Nat) (Z : jZ) (I : jI) (L : jL) (Q : Int32 → jI → jL → Prop) (hZ : SH Z) (kv0 : jk Z v0 12) (h : f_X12_undo v0 Z I L Q) : jCt l yX12_undo w_X12_undo { frames := 0, cells := 0, slots := 0, locals := 0 } D cy [.ref v0] Z I L (rtI Z Q) := by
  refine jCt_of (cc := cX12_undo) (maxL := 2) (ret := (some .int)) (by decide +kernel) rfl (Nat.le_of_ble_eq_true rfl) ?_
  intro G eD eY eL E
  subst eD; subst eY; subst eL
  have E : jE G cX12_undo RX12 w_X12_undo 2 (some .int) { frames := 0, cells := 0, slots := 0, locals := 0 } (rtI Z Q) := E
  show jJ G 2 0 [(0, .ref v0)] [] Z I L 0 0
  refine j_aload_n E dX12_undo_0 0 rfl ?_
  refine j_iconst E (v := 0) dX12_undo_1 (by decide) ?_
  refine j_puti E 12 22 rfl rfl (by decide) (by decide) (iw iT_12) tyX12_ok nmX12 rfl rfl (tw W_674) rfl rfl rfl kv0 dX12_undo_2 ?_
  refine j_nmI (fun I8 eI8 => ?_)
  have h := h I8 eI8
  refine j_aload_n E dX12_undo_5 0 rfl ?_
  refine j_geti E 12 52 rfl rfl (by decide) (by decide) (iw iT_12) rfl rfl (tw W_724) kv0 dX12_undo_6 ?_
  refine j_if_ne E 14 dX12_undo_9 (by decide) (fun c9 => ?_) (fun c9 => ?_)
  · have h := h.1 c9
    refine j_aload_n E dX12_undo_14 0 rfl ?_
    refine j_dup E dX12_undo_15 rfl ?_
    refine j_geti E 12 52 rfl rfl (by decide) (by decide) (iw iT_12) rfl rfl (tw W_724) kv0 dX12_undo_16 ?_
    refine j_iconst E (v := 1) dX12_undo_19 (by decide) ?_
    refine j_isub E dX12_undo_20 ?_
    refine j_puti E 12 52 rfl rfl (by decide) (by decide) (iw iT_12) tyX12_ok nmX12 rfl rfl (tw W_724) rfl rfl rfl kv0 dX12_undo_21 ?_
    refine j_nmI (fun I10 eI10 => ?_)
    have h := h I10 eI10
    refine j_iconst E (v := 0) dX12_undo_24 (by decide) ?_
    refine j_istore_n E 1 [(1, .int (0 : Int32)), (0, .ref v0)] dX12_undo_25 rfl (by decide) rfl ?_
    obtain ⟨n11, h⟩ := h
    refine j_sub [1, 0] rfl ?_
    exact m_X12_undo_L26 E hZ  n11 v0 (0 : Int32) I10 L kv0 h
  · have h := h.2 c9
    refine j_iconst E (v := -1) dX12_undo_12 (by decide) ?_
    exact j_ireturn E ⟨rfl, _, rfl, h⟩ (Nat.zero_le _) (Nat.zero_le _) dX12_undo_13
set_option maxRecDepth 100000 in
def f_X12_rail_b72 (K40 : Nat → Int32 → Int32 → jI → jL → Prop) (Z : jZ) (Q : Int32 → jI → jL → Prop) (v0 : Nat) (v3 : Int32) (s0 : Int32) (s1 : Int32) (I : jI) (L : jL) : Prop := (∀ x1 : Int32, x1 = (s0 + s1) → (∀ x2 : Int32, x2 = v3 + 1 → K40 v0 x1 x2 I L))
set_option maxHeartbeats 4000000 in
set_option maxRecDepth 100000 in
theorem m_X12_rail_b72 {G : jG} {Z : jZ} {Q : Int32 → jI → jL → Prop} (E : jE G cX12_rail RX12 w_X12_rail 4 (some .int) { frames := 1, cells := 0, slots := 0, locals := 29 } (rtI Z Q)) (hZ : SH Z) (K40 : Nat → Int32 → Int32 → jI → jL → Prop) (hK40 : ∀ (v0 : Nat) (v2 : Int32) (v3 : Int32) (I : jI) (L : jL), jk Z v0 12 → K40 v0 v2 v3 I L → jJ G 4 40 [(0, .ref v0), (2, .int v2), (3, .int v3)] [] Z I L 0 0) (v0 : Nat) (v3 : Int32) (s0 : Int32) (s1 : Int32) (I : jI) (L : jL) (kv0 : jk Z v0 12) (h : f_X12_rail_b72 K40 Z Q v0 v3 s0 s1 I L) : jJ G 4 72 [(0, .ref v0), (3, .int v3)] [.int s1, .int s0] Z I L 0 0 := by
  refine j_iadd E dX12_rail_72 ?_
  refine j_topi (fun x1 ex1 => ?_)
  have h := h x1 ex1
  refine j_istore_n E 2 [(2, .int x1), (0, .ref v0), (3, .int v3)] dX12_rail_73 rfl (by decide) rfl ?_
  obtain ⟨x2, ex2⟩ : ∃ y : Int32, y = v3 + 1 := ⟨_, rfl⟩
  have h := h x2 ex2
  refine j_iinc E x2 [(3, .int x2), (2, .int x1), (0, .ref v0)] dX12_rail_74 2 rfl (by rw [ex2]; rfl) (by decide) rfl ?_
  refine j_goto E 40 dX12_rail_77 (by decide) ?_
  refine j_sub [2, 1, 0] rfl ?_
  exact hK40 v0 x1 x2 I L kv0 h
set_option maxRecDepth 100000 in
def f_X12_rail_L40  (Z : jZ) (Q : Int32 → jI → jL → Prop) : Nat → Nat → Int32 → Int32 → jI → jL → Prop
  | 0 => fun _ _ _ _ _ => False
  | n + 1 => fun v0 v2 v3 I L => (((8 : Int32) ≤ v3 → Q v2 I L) ∧ (¬ ((8 : Int32) ≤ v3) → (∀ b4 : Nat, jr Z v0 35 = some b4 → (vp_in v3 8 ∧ (f_X12_tell v0 ((I b4 v3.toNatClampNeg).toInt64) Z I L (fun I8 L9 => (∀ b11 : Nat, jr Z v0 35 = some b11 → (vp_in v3 8 ∧ (((I8 b11 v3.toNatClampNeg) ≤ 0 → f_X12_rail_b72 (f_X12_rail_L40 Z Q n) Z Q v0 v3 v2 (0 : Int32) I8 L9) ∧ (¬ ((I8 b11 v3.toNatClampNeg) ≤ 0) → f_X12_rail_b72 (f_X12_rail_L40 Z Q n) Z Q v0 v3 v2 (1 : Int32) I8 L9))))))))))
set_option maxHeartbeats 4000000 in
set_option maxRecDepth 100000 in
theorem m_X12_rail_L40 {G : jG} {Z : jZ} {Q : Int32 → jI → jL → Prop} (E : jE G cX12_rail RX12 w_X12_rail 4 (some .int) { frames := 1, cells := 0, slots := 0, locals := 29 } (rtI Z Q)) (hZ : SH Z)  : ∀ (n : Nat) (v0 : Nat) (v2 : Int32) (v3 : Int32) (I : jI) (L : jL), jk Z v0 12 → f_X12_rail_L40  Z Q n v0 v2 v3 I L → jJ G 4 40 [(0, .ref v0), (2, .int v2), (3, .int v3)] [] Z I L 0 0 := by
  intro n
  induction n with
  | zero => intro v0 v2 v3 I L _ h; exact h.elim
  | succ n ih =>
    intro v0 v2 v3 I L kv0 h
    have h : (((8 : Int32) ≤ v3 → Q v2 I L) ∧ (¬ ((8 : Int32) ≤ v3) → (∀ b4 : Nat, jr Z v0 35 = some b4 → (vp_in v3 8 ∧ (f_X12_tell v0 ((I b4 v3.toNatClampNeg).toInt64) Z I L (fun I8 L9 => (∀ b11 : Nat, jr Z v0 35 = some b11 → (vp_in v3 8 ∧ (((I8 b11 v3.toNatClampNeg) ≤ 0 → f_X12_rail_b72 (f_X12_rail_L40 Z Q n) Z Q v0 v3 v2 (0 : Int32) I8 L9) ∧ (¬ ((I8 b11 v3.toNatClampNeg) ≤ 0) → f_X12_rail_b72 (f_X12_rail_L40 Z Q n) Z Q v0 v3 v2 (1 : Int32) I8 L9)))))))))) := h
    obtain ⟨K40, eK40⟩ : ∃ K : Nat → Int32 → Int32 → jI → jL → Prop, K = f_X12_rail_L40  Z Q n := ⟨_, rfl⟩
    have hK40 := ih
    clear eK40 K40
    generalize f_X12_rail_L40  Z Q n = K40 at hK40 h
    refine j_iload_n E dX12_rail_40 2 rfl ?_
    refine j_bipush E (v := 8) dX12_rail_41 (by decide) ?_
    refine j_icmp_ge E 80 dX12_rail_43 (by decide) (fun c3 => ?_) (fun c3 => ?_)
    · have h := h.1 c3
      refine j_iload_n E dX12_rail_80 1 rfl ?_
      exact j_ireturn E ⟨rfl, _, rfl, h⟩ (Nat.zero_le _) (Nat.zero_le _) dX12_rail_81
    · have h := h.2 c3
      refine j_aload_n E dX12_rail_46 0 rfl ?_
      refine j_aload_n E dX12_rail_47 0 rfl ?_
      obtain ⟨b4, eb4, kb4, lb4⟩ := sh_f hZ kv0 (j := 35) (k := 14) (m := 8) rfl
      have h := h b4 eb4
      refine j_getr E 12 35 rfl rfl (by decide) (by decide) (iw iT_12) rfl rfl (tw W_791) kv0 eb4 dX12_rail_48 ?_
      refine j_iload_n E dX12_rail_51 2 rfl ?_
      obtain ⟨o5, h⟩ := h
      refine j_iald E kb4 (by rw [lb4]; exact o5) dX12_rail_52 ?_
      refine j_i2l E dX12_rail_53 ?_
      refine j_callV E [.long ((I b4 v3.toNatClampNeg).toInt64)] [] (c_X12_tell (gL G) (gD G) (gY G) v0 ((I b4 v3.toNatClampNeg).toInt64) Z I L _ hZ kv0 h) (gwV W_784 W_785 W_786 W_679 W_783) rfl ⟨rfl, fy_X12_tell⟩ ⟨by decide, by decide⟩ (c := 12) rfl (by decide) kv0 rfl rfl (Nat.le_of_ble_eq_true rfl) ⟨Nat.zero_le _, Nat.zero_le _⟩ dX12_rail_54 (fun v6 Z7 I8 L9 q10 => ?_)
      obtain ⟨rfl, rfl, h⟩ := q10
      show jJ G 4 57 [(0, .ref v0), (2, .int v2), (3, .int v3)] [] Z I8 L9 0 0
      refine j_iload_n E dX12_rail_57 1 rfl ?_
      refine j_aload_n E dX12_rail_58 0 rfl ?_
      obtain ⟨b11, eb11, kb11, lb11⟩ := sh_f hZ kv0 (j := 35) (k := 14) (m := 8) rfl
      have h := h b11 eb11
      refine j_getr E 12 35 rfl rfl (by decide) (by decide) (iw iT_12) rfl rfl (tw W_791) kv0 eb11 dX12_rail_59 ?_
      refine j_iload_n E dX12_rail_62 2 rfl ?_
      obtain ⟨o12, h⟩ := h
      refine j_iald E kb11 (by rw [lb11]; exact o12) dX12_rail_63 ?_
      refine j_if_le E 71 dX12_rail_64 (by decide) (fun c13 => ?_) (fun c13 => ?_)
      · have h := h.1 c13
        refine j_iconst E (v := 0) dX12_rail_71 (by decide) ?_
        refine j_sub [0, 2] rfl ?_
        exact m_X12_rail_b72 E hZ K40 hK40 v0 v3 v2 (0 : Int32) I8 L9 kv0 h
      · have h := h.2 c13
        refine j_iconst E (v := 1) dX12_rail_67 (by decide) ?_
        refine j_goto E 72 dX12_rail_68 (by decide) ?_
        refine j_sub [0, 2] rfl ?_
        exact m_X12_rail_b72 E hZ K40 hK40 v0 v3 v2 (1 : Int32) I8 L9 kv0 h
set_option maxRecDepth 100000 in
def f_X12_rail (v0 : Nat) (v1 : Int32) (Z : jZ) (I : jI) (L : jL) (Q : Int32 → jI → jL → Prop) : Prop := (∀ I14 : jI, I14 = jpI I v0 22 (0 : Int32) → (((I14 v0 0) = 0 → Q (-1 : Int32) I14 L) ∧ (¬ ((I14 v0 0) = 0) → (f_X12_in v1 (0 : Int32) (9999 : Int32) Z I14 L (fun r21 I18 L19 => ((¬ r21 = 0 → (f_X12_divide v0 v1 (-1 : Int32) Z I18 L19 (fun I25 L26 => (∀ I28 : jI, I28 = jpI I25 v0 21 (0 : Int32) → (∃ m40 : Nat, f_X12_rail_L40  Z Q m40 v0 (0 : Int32) (0 : Int32) I28 L26))))) ∧ (r21 = 0 → Q (-1 : Int32) I18 L19)))))))
set_option maxHeartbeats 4000000 in
set_option maxRecDepth 100000 in
theorem c_X12_rail (l : Launch) (D : va_G) (cy : jC) (v0 : Nat) (v1 : Int32) (Z : jZ) (I : jI) (L : jL) (Q : Int32 → jI → jL → Prop) (hZ : SH Z) (kv0 : jk Z v0 12) (h : f_X12_rail v0 v1 Z I L Q) : jCt l yX12_rail w_X12_rail { frames := 1, cells := 0, slots := 0, locals := 29 } D cy [.ref v0, .int v1] Z I L (rtI Z Q) := by
  refine jCt_of (cc := cX12_rail) (maxL := 4) (ret := (some .int)) (by decide +kernel) rfl (Nat.le_of_ble_eq_true rfl) ?_
  intro G eD eY eL E
  subst eD; subst eY; subst eL
  have E : jE G cX12_rail RX12 w_X12_rail 4 (some .int) { frames := 1, cells := 0, slots := 0, locals := 29 } (rtI Z Q) := E
  show jJ G 4 0 [(0, .ref v0), (1, .int v1)] [] Z I L 0 0
  refine j_aload_n E dX12_rail_0 0 rfl ?_
  refine j_iconst E (v := 0) dX12_rail_1 (by decide) ?_
  refine j_puti E 12 22 rfl rfl (by decide) (by decide) (iw iT_12) tyX12_ok nmX12 rfl rfl (tw W_674) rfl rfl rfl kv0 dX12_rail_2 ?_
  refine j_nmI (fun I14 eI14 => ?_)
  have h := h I14 eI14
  refine j_aload_n E dX12_rail_5 0 rfl ?_
  refine j_geti E 12 0 rfl rfl (by decide) (by decide) (iw iT_12) rfl rfl (tw W_677) kv0 dX12_rail_6 ?_
  refine j_if_eq E 23 dX12_rail_9 (by decide) (fun c15 => ?_) (fun c15 => ?_)
  · have h := h.1 c15
    refine j_iconst E (v := -1) dX12_rail_23 (by decide) ?_
    exact j_ireturn E ⟨rfl, _, rfl, h⟩ (Nat.zero_le _) (Nat.zero_le _) dX12_rail_24
  · have h := h.2 c15
    refine j_iload_n E dX12_rail_12 1 rfl ?_
    refine j_iconst E (v := 0) dX12_rail_13 (by decide) ?_
    refine j_sipush E (v := 9999) dX12_rail_14 (by decide) ?_
    refine j_callS E [.int v1, .int (0 : Int32), .int (9999 : Int32)] [] (c_X12_in (gL G) (gD G) (gY G) v1 (0 : Int32) (9999 : Int32) Z I14 L _ hZ  h) (gwS W_680 W_681 W_679 W_678) rfl fy_X12_in ⟨by decide, by decide⟩ rfl rfl (Nat.le_of_ble_eq_true rfl) ⟨Nat.zero_le _, Nat.zero_le _⟩ dX12_rail_17 (fun v16 Z17 I18 L19 q20 => ?_)
    obtain ⟨rfl, r21, rfl, zr21, h⟩ := q20
    show jJ G 4 20 [(0, .ref v0), (1, .int v1)] [.int r21] Z I18 L19 0 0
    refine j_if_ne E 25 dX12_rail_20 (by decide) (fun c22 => ?_) (fun c22 => ?_)
    · have h := h.1 c22
      refine j_aload_n E dX12_rail_25 0 rfl ?_
      refine j_iload_n E dX12_rail_26 1 rfl ?_
      refine j_iconst E (v := -1) dX12_rail_27 (by decide) ?_
      refine j_callV E [.int v1, .int (-1 : Int32)] [] (c_X12_divide (gL G) (gD G) (gY G) v0 v1 (-1 : Int32) Z I18 L19 _ hZ kv0 h) (gwV W_796 W_797 W_798 W_679 W_795) rfl ⟨rfl, fy_X12_divide⟩ ⟨by decide, by decide⟩ (c := 12) rfl (by decide) kv0 rfl rfl (Nat.le_of_ble_eq_true rfl) ⟨Nat.zero_le _, Nat.zero_le _⟩ dX12_rail_28 (fun v23 Z24 I25 L26 q27 => ?_)
      obtain ⟨rfl, rfl, h⟩ := q27
      show jJ G 4 31 [(0, .ref v0), (1, .int v1)] [] Z I25 L26 0 0
      refine j_iconst E (v := 0) dX12_rail_31 (by decide) ?_
      refine j_istore_n E 2 [(2, .int (0 : Int32)), (0, .ref v0), (1, .int v1)] dX12_rail_32 rfl (by decide) rfl ?_
      refine j_aload_n E dX12_rail_33 1 rfl ?_
      refine j_iconst E (v := 0) dX12_rail_34 (by decide) ?_
      refine j_puti E 12 21 rfl rfl (by decide) (by decide) (iw iT_12) tyX12_ok nmX12 rfl rfl (tw W_676) rfl rfl rfl kv0 dX12_rail_35 ?_
      refine j_nmI (fun I28 eI28 => ?_)
      have h := h I28 eI28
      refine j_iconst E (v := 0) dX12_rail_38 (by decide) ?_
      refine j_istore_n E 3 [(3, .int (0 : Int32)), (2, .int (0 : Int32)), (0, .ref v0), (1, .int v1)] dX12_rail_39 rfl (by decide) rfl ?_
      obtain ⟨n29, h⟩ := h
      refine j_sub [2, 1, 0] rfl ?_
      exact m_X12_rail_L40 E hZ  n29 v0 (0 : Int32) (0 : Int32) I28 L26 kv0 h
    · have h := h.2 c22
      refine j_iconst E (v := -1) dX12_rail_23 (by decide) ?_
      exact j_ireturn E ⟨rfl, _, rfl, h⟩ (Nat.zero_le _) (Nat.zero_le _) dX12_rail_24
set_option maxRecDepth 100000 in
def f_X12_rules_b192 (K40 : Nat → Int32 → Int32 → Int32 → Int32 → jI → jL → Prop) (Z : jZ) (Q : Int32 → jI → jL → Prop) (v0 : Nat) (v1 : Int32) (v2 : Int32) (v3 : Int32) (v4 : Int32) (I : jI) (L : jL) : Prop := (∀ x1 : Int32, x1 = v4 + 1 → K40 v0 v1 v2 v3 x1 I L)
set_option maxHeartbeats 4000000 in
set_option maxRecDepth 100000 in
theorem m_X12_rules_b192 {G : jG} {Z : jZ} {Q : Int32 → jI → jL → Prop} (E : jE G cX12_rules RX12 w_X12_rules 7 (some .int) { frames := 2, cells := 0, slots := 0, locals := 43 } (rtI Z Q)) (hZ : SH Z) (K40 : Nat → Int32 → Int32 → Int32 → Int32 → jI → jL → Prop) (hK40 : ∀ (v0 : Nat) (v1 : Int32) (v2 : Int32) (v3 : Int32) (v4 : Int32) (I : jI) (L : jL), jk Z v0 12 → K40 v0 v1 v2 v3 v4 I L → jJ G 7 40 [(0, .ref v0), (1, .int v1), (2, .int v2), (3, .int v3), (4, .int v4)] [] Z I L 0 0) (v0 : Nat) (v1 : Int32) (v2 : Int32) (v3 : Int32) (v4 : Int32) (I : jI) (L : jL) (kv0 : jk Z v0 12) (h : f_X12_rules_b192 K40 Z Q v0 v1 v2 v3 v4 I L) : jJ G 7 192 [(0, .ref v0), (1, .int v1), (2, .int v2), (3, .int v3), (4, .int v4)] [] Z I L 0 0 := by
  obtain ⟨x1, ex1⟩ : ∃ y : Int32, y = v4 + 1 := ⟨_, rfl⟩
  have h := h x1 ex1
  refine j_iinc E x1 [(4, .int x1), (0, .ref v0), (1, .int v1), (2, .int v2), (3, .int v3)] dX12_rules_192 4 rfl (by rw [ex1]; rfl) (by decide) rfl ?_
  refine j_goto E 40 dX12_rules_195 (by decide) ?_
  refine j_sub [1, 2, 3, 4, 0] rfl ?_
  exact hK40 v0 v1 v2 v3 x1 I L kv0 h
set_option maxRecDepth 100000 in
def f_X12_rules_b189 (K40 : Nat → Int32 → Int32 → Int32 → Int32 → jI → jL → Prop) (Z : jZ) (Q : Int32 → jI → jL → Prop) (v0 : Nat) (v1 : Int32) (v2 : Int32) (v4 : Int32) (I : jI) (L : jL) : Prop := f_X12_rules_b192 K40 Z Q v0 v1 v2 v4 v4 I L
set_option maxHeartbeats 4000000 in
set_option maxRecDepth 100000 in
theorem m_X12_rules_b189 {G : jG} {Z : jZ} {Q : Int32 → jI → jL → Prop} (E : jE G cX12_rules RX12 w_X12_rules 7 (some .int) { frames := 2, cells := 0, slots := 0, locals := 43 } (rtI Z Q)) (hZ : SH Z) (K40 : Nat → Int32 → Int32 → Int32 → Int32 → jI → jL → Prop) (hK40 : ∀ (v0 : Nat) (v1 : Int32) (v2 : Int32) (v3 : Int32) (v4 : Int32) (I : jI) (L : jL), jk Z v0 12 → K40 v0 v1 v2 v3 v4 I L → jJ G 7 40 [(0, .ref v0), (1, .int v1), (2, .int v2), (3, .int v3), (4, .int v4)] [] Z I L 0 0) (v0 : Nat) (v1 : Int32) (v2 : Int32) (v4 : Int32) (I : jI) (L : jL) (kv0 : jk Z v0 12) (h : f_X12_rules_b189 K40 Z Q v0 v1 v2 v4 I L) : jJ G 7 189 [(0, .ref v0), (1, .int v1), (2, .int v2), (4, .int v4)] [] Z I L 0 0 := by
  refine j_iload E dX12_rules_189 3 rfl ?_
  refine j_istore_n E 3 [(3, .int v4), (0, .ref v0), (1, .int v1), (2, .int v2), (4, .int v4)] dX12_rules_191 rfl (by decide) rfl ?_
  refine j_sub [1, 2, 3, 0, 4] rfl ?_
  exact m_X12_rules_b192 E hZ K40 hK40 v0 v1 v2 v4 v4 I L kv0 h
set_option maxRecDepth 100000 in
def f_X12_rules_b167 (K40 : Nat → Int32 → Int32 → Int32 → Int32 → jI → jL → Prop) (Z : jZ) (Q : Int32 → jI → jL → Prop) (v0 : Nat) (v1 : Int32) (v2 : Int32) (v3 : Int32) (v4 : Int32) (s0 : Int32) (s1 : Int32) (I : jI) (L : jL) : Prop := ((s1 < s0 → ((v3 = 0 → f_X12_rules_b189 K40 Z Q v0 v1 v2 v4 I L) ∧ (¬ (v3 = 0) → (f_J6_bitCount_0f7a4 v4 Z I L (fun r9 I6 L7 => (f_J6_bitCount_0f7a4 v3 Z I6 L7 (fun r15 I12 L13 => ((r15 ≤ r9 → f_X12_rules_b192 K40 Z Q v0 v1 v2 v3 v4 I12 L13) ∧ (¬ (r15 ≤ r9) → f_X12_rules_b189 K40 Z Q v0 v1 v2 v4 I12 L13))))))))) ∧ (¬ (s1 < s0) → f_X12_rules_b192 K40 Z Q v0 v1 v2 v3 v4 I L))
set_option maxHeartbeats 4000000 in
set_option maxRecDepth 100000 in
theorem m_X12_rules_b167 {G : jG} {Z : jZ} {Q : Int32 → jI → jL → Prop} (E : jE G cX12_rules RX12 w_X12_rules 7 (some .int) { frames := 2, cells := 0, slots := 0, locals := 43 } (rtI Z Q)) (hZ : SH Z) (K40 : Nat → Int32 → Int32 → Int32 → Int32 → jI → jL → Prop) (hK40 : ∀ (v0 : Nat) (v1 : Int32) (v2 : Int32) (v3 : Int32) (v4 : Int32) (I : jI) (L : jL), jk Z v0 12 → K40 v0 v1 v2 v3 v4 I L → jJ G 7 40 [(0, .ref v0), (1, .int v1), (2, .int v2), (3, .int v3), (4, .int v4)] [] Z I L 0 0) (v0 : Nat) (v1 : Int32) (v2 : Int32) (v3 : Int32) (v4 : Int32) (s0 : Int32) (s1 : Int32) (I : jI) (L : jL) (kv0 : jk Z v0 12) (h : f_X12_rules_b167 K40 Z Q v0 v1 v2 v3 v4 s0 s1 I L) : jJ G 7 167 [(0, .ref v0), (1, .int v1), (2, .int v2), (3, .int v3), (4, .int v4)] [.int s1, .int s0] Z I L 0 0 := by
  refine j_icmp_gt E 173 dX12_rules_167 (by decide) (fun c2 => ?_) (fun c2 => ?_)
  · have h := h.1 c2
    refine j_iload_n E dX12_rules_173 3 rfl ?_
    refine j_if_eq E 189 dX12_rules_174 (by decide) (fun c3 => ?_) (fun c3 => ?_)
    · have h := h.1 c3
      refine j_sub [0, 1, 2, 4] rfl ?_
      exact m_X12_rules_b189 E hZ K40 hK40 v0 v1 v2 v4 I L kv0 h
    · have h := h.2 c3
      refine j_iload E dX12_rules_177 4 rfl ?_
      refine j_callS E [.int v4] [] (c_J6_bitCount_0f7a4 (gL G) (gD G) (gY G) v4 Z I L _ hZ  h) (gwS W_879 W_236 W_234 W_233) rfl fy_J6_bitCount_0f7a4 ⟨by decide, by decide⟩ rfl rfl (Nat.le_of_ble_eq_true rfl) ⟨Nat.zero_le _, Nat.zero_le _⟩ dX12_rules_179 (fun v4 Z5 I6 L7 q8 => ?_)
      obtain ⟨rfl, r9, rfl, h⟩ := q8
      show jJ G 7 182 [(0, .ref v0), (1, .int v1), (2, .int v2), (3, .int v3), (4, .int v4)] [.int r9] Z I6 L7 0 0
      refine j_iload_n E dX12_rules_182 3 rfl ?_
      refine j_callS E [.int v3] [.int r9] (c_J6_bitCount_0f7a4 (gL G) (gD G) (gY G) v3 Z I6 L7 _ hZ  h) (gwS W_879 W_236 W_234 W_233) rfl fy_J6_bitCount_0f7a4 ⟨by decide, by decide⟩ rfl rfl (Nat.le_of_ble_eq_true rfl) ⟨Nat.zero_le _, Nat.zero_le _⟩ dX12_rules_183 (fun v10 Z11 I12 L13 q14 => ?_)
      obtain ⟨rfl, r15, rfl, h⟩ := q14
      show jJ G 7 186 [(0, .ref v0), (1, .int v1), (2, .int v2), (3, .int v3), (4, .int v4)] [.int r15, .int r9] Z I12 L13 0 0
      refine j_icmp_ge E 192 dX12_rules_186 (by decide) (fun c16 => ?_) (fun c16 => ?_)
      · have h := h.1 c16
        refine j_sub [0, 1, 2, 3, 4] rfl ?_
        exact m_X12_rules_b192 E hZ K40 hK40 v0 v1 v2 v3 v4 I12 L13 kv0 h
      · have h := h.2 c16
        refine j_sub [0, 1, 2, 4] rfl ?_
        exact m_X12_rules_b189 E hZ K40 hK40 v0 v1 v2 v4 I12 L13 kv0 h
  · have h := h.2 c2
    refine j_goto E 192 dX12_rules_170 (by decide) ?_
    refine j_sub [0, 1, 2, 3, 4] rfl ?_
    exact m_X12_rules_b192 E hZ K40 hK40 v0 v1 v2 v3 v4 I L kv0 h
set_option maxRecDepth 100000 in
def f_X12_rules_b140 (K40 : Nat → Int32 → Int32 → Int32 → Int32 → jI → jL → Prop) (K105 : Nat → Int32 → Int32 → Int32 → Int32 → Int32 → Int32 → jI → jL → Prop) (Z : jZ) (Q : Int32 → jI → jL → Prop) (v0 : Nat) (v1 : Int32) (v2 : Int32) (v3 : Int32) (v4 : Int32) (v6 : Int32) (s0 : Int32) (s1 : Int32) (I : jI) (L : jL) : Prop := (∀ x17 : Int32, x17 = (s0 + s1) → (∀ x18 : Int32, x18 = v6 + 1 → K105 v0 v1 v2 v3 v4 x17 x18 I L))
set_option maxHeartbeats 4000000 in
set_option maxRecDepth 100000 in
theorem m_X12_rules_b140 {G : jG} {Z : jZ} {Q : Int32 → jI → jL → Prop} (E : jE G cX12_rules RX12 w_X12_rules 7 (some .int) { frames := 2, cells := 0, slots := 0, locals := 43 } (rtI Z Q)) (hZ : SH Z) (K40 : Nat → Int32 → Int32 → Int32 → Int32 → jI → jL → Prop) (hK40 : ∀ (v0 : Nat) (v1 : Int32) (v2 : Int32) (v3 : Int32) (v4 : Int32) (I : jI) (L : jL), jk Z v0 12 → K40 v0 v1 v2 v3 v4 I L → jJ G 7 40 [(0, .ref v0), (1, .int v1), (2, .int v2), (3, .int v3), (4, .int v4)] [] Z I L 0 0) (K105 : Nat → Int32 → Int32 → Int32 → Int32 → Int32 → Int32 → jI → jL → Prop) (hK105 : ∀ (v0 : Nat) (v1 : Int32) (v2 : Int32) (v3 : Int32) (v4 : Int32) (v5 : Int32) (v6 : Int32) (I : jI) (L : jL), jk Z v0 12 → K105 v0 v1 v2 v3 v4 v5 v6 I L → jJ G 7 105 [(0, .ref v0), (1, .int v1), (2, .int v2), (3, .int v3), (4, .int v4), (5, .int v5), (6, .int v6)] [] Z I L 0 0) (v0 : Nat) (v1 : Int32) (v2 : Int32) (v3 : Int32) (v4 : Int32) (v6 : Int32) (s0 : Int32) (s1 : Int32) (I : jI) (L : jL) (kv0 : jk Z v0 12) (h : f_X12_rules_b140 K40 K105 Z Q v0 v1 v2 v3 v4 v6 s0 s1 I L) : jJ G 7 140 [(0, .ref v0), (1, .int v1), (2, .int v2), (3, .int v3), (4, .int v4), (6, .int v6)] [.int s1, .int s0] Z I L 0 0 := by
  refine j_iadd E dX12_rules_140 ?_
  refine j_topi (fun x17 ex17 => ?_)
  have h := h x17 ex17
  refine j_istore E 5 [(5, .int x17), (0, .ref v0), (1, .int v1), (2, .int v2), (3, .int v3), (4, .int v4), (6, .int v6)] dX12_rules_141 (by decide) rfl ?_
  obtain ⟨x18, ex18⟩ : ∃ y : Int32, y = v6 + 1 := ⟨_, rfl⟩
  have h := h x18 ex18
  refine j_iinc E x18 [(6, .int x18), (5, .int x17), (0, .ref v0), (1, .int v1), (2, .int v2), (3, .int v3), (4, .int v4)] dX12_rules_143 6 rfl (by rw [ex18]; rfl) (by decide) rfl ?_
  refine j_goto E 105 dX12_rules_146 (by decide) ?_
  refine j_sub [2, 3, 4, 5, 6, 1, 0] rfl ?_
  exact hK105 v0 v1 v2 v3 v4 x17 x18 I L kv0 h
set_option maxRecDepth 100000 in
def f_X12_rules_b139 (K40 : Nat → Int32 → Int32 → Int32 → Int32 → jI → jL → Prop) (K105 : Nat → Int32 → Int32 → Int32 → Int32 → Int32 → Int32 → jI → jL → Prop) (Z : jZ) (Q : Int32 → jI → jL → Prop) (v0 : Nat) (v1 : Int32) (v2 : Int32) (v3 : Int32) (v4 : Int32) (v6 : Int32) (s0 : Int32) (I : jI) (L : jL) : Prop := f_X12_rules_b140 K40 K105 Z Q v0 v1 v2 v3 v4 v6 s0 (0 : Int32) I L
set_option maxHeartbeats 4000000 in
set_option maxRecDepth 100000 in
theorem m_X12_rules_b139 {G : jG} {Z : jZ} {Q : Int32 → jI → jL → Prop} (E : jE G cX12_rules RX12 w_X12_rules 7 (some .int) { frames := 2, cells := 0, slots := 0, locals := 43 } (rtI Z Q)) (hZ : SH Z) (K40 : Nat → Int32 → Int32 → Int32 → Int32 → jI → jL → Prop) (hK40 : ∀ (v0 : Nat) (v1 : Int32) (v2 : Int32) (v3 : Int32) (v4 : Int32) (I : jI) (L : jL), jk Z v0 12 → K40 v0 v1 v2 v3 v4 I L → jJ G 7 40 [(0, .ref v0), (1, .int v1), (2, .int v2), (3, .int v3), (4, .int v4)] [] Z I L 0 0) (K105 : Nat → Int32 → Int32 → Int32 → Int32 → Int32 → Int32 → jI → jL → Prop) (hK105 : ∀ (v0 : Nat) (v1 : Int32) (v2 : Int32) (v3 : Int32) (v4 : Int32) (v5 : Int32) (v6 : Int32) (I : jI) (L : jL), jk Z v0 12 → K105 v0 v1 v2 v3 v4 v5 v6 I L → jJ G 7 105 [(0, .ref v0), (1, .int v1), (2, .int v2), (3, .int v3), (4, .int v4), (5, .int v5), (6, .int v6)] [] Z I L 0 0) (v0 : Nat) (v1 : Int32) (v2 : Int32) (v3 : Int32) (v4 : Int32) (v6 : Int32) (s0 : Int32) (I : jI) (L : jL) (kv0 : jk Z v0 12) (h : f_X12_rules_b139 K40 K105 Z Q v0 v1 v2 v3 v4 v6 s0 I L) : jJ G 7 139 [(0, .ref v0), (1, .int v1), (2, .int v2), (3, .int v3), (4, .int v4), (6, .int v6)] [.int s0] Z I L 0 0 := by
  refine j_iconst E (v := 0) dX12_rules_139 (by decide) ?_
  refine j_sub [0, 1, 2, 3, 4, 5] rfl ?_
  exact m_X12_rules_b140 E hZ K40 hK40 K105 hK105 v0 v1 v2 v3 v4 v6 s0 (0 : Int32) I L kv0 h
set_option maxRecDepth 100000 in
def f_X12_rules_L105 (K40 : Nat → Int32 → Int32 → Int32 → Int32 → jI → jL → Prop) (Z : jZ) (Q : Int32 → jI → jL → Prop) : Nat → Nat → Int32 → Int32 → Int32 → Int32 → Int32 → Int32 → jI → jL → Prop
  | 0 => fun _ _ _ _ _ _ _ _ _ => False
  | n + 1 => fun v0 v1 v2 v3 v4 v5 v6 I L => (((I v0 0) ≤ v6 → ((¬ v1 = 0 → f_X12_rules_b167 K40 Z Q v0 v1 v2 v3 v4 ((2 : Int32) * v5) (I v0 0) I L) ∧ (v1 = 0 → f_X12_rules_b167 K40 Z Q v0 v1 v2 v3 v4 ((2 : Int32) * v5) (720 : Int32) I L))) ∧ (¬ ((I v0 0) ≤ v6) → ((¬ v1 = (1 : Int32) → f_X12_rules_b139 K40 (f_X12_rules_L105 K40 Z Q n) Z Q v0 v1 v2 v3 v4 v6 v5 I L) ∧ (v1 = (1 : Int32) → (f_X12_mainOf v0 v6 Z I L (fun r27 I24 L25 => (f_X12_has v4 r27 Z I24 L25 (fun r33 I30 L31 => ((r33 = 0 → f_X12_rules_b139 K40 (f_X12_rules_L105 K40 Z Q n) Z Q v0 v1 v2 v3 v4 v6 v5 I30 L31) ∧ (¬ (r33 = 0) → f_X12_rules_b140 K40 (f_X12_rules_L105 K40 Z Q n) Z Q v0 v1 v2 v3 v4 v6 v5 (1 : Int32) I30 L31))))))))))
set_option maxHeartbeats 4000000 in
set_option maxRecDepth 100000 in
theorem m_X12_rules_L105 {G : jG} {Z : jZ} {Q : Int32 → jI → jL → Prop} (E : jE G cX12_rules RX12 w_X12_rules 7 (some .int) { frames := 2, cells := 0, slots := 0, locals := 43 } (rtI Z Q)) (hZ : SH Z) (K40 : Nat → Int32 → Int32 → Int32 → Int32 → jI → jL → Prop) (hK40 : ∀ (v0 : Nat) (v1 : Int32) (v2 : Int32) (v3 : Int32) (v4 : Int32) (I : jI) (L : jL), jk Z v0 12 → K40 v0 v1 v2 v3 v4 I L → jJ G 7 40 [(0, .ref v0), (1, .int v1), (2, .int v2), (3, .int v3), (4, .int v4)] [] Z I L 0 0) : ∀ (n : Nat) (v0 : Nat) (v1 : Int32) (v2 : Int32) (v3 : Int32) (v4 : Int32) (v5 : Int32) (v6 : Int32) (I : jI) (L : jL), jk Z v0 12 → f_X12_rules_L105 K40 Z Q n v0 v1 v2 v3 v4 v5 v6 I L → jJ G 7 105 [(0, .ref v0), (1, .int v1), (2, .int v2), (3, .int v3), (4, .int v4), (5, .int v5), (6, .int v6)] [] Z I L 0 0 := by
  intro n
  induction n with
  | zero => intro v0 v1 v2 v3 v4 v5 v6 I L _ h; exact h.elim
  | succ n ih =>
    intro v0 v1 v2 v3 v4 v5 v6 I L kv0 h
    have h : (((I v0 0) ≤ v6 → ((¬ v1 = 0 → f_X12_rules_b167 K40 Z Q v0 v1 v2 v3 v4 ((2 : Int32) * v5) (I v0 0) I L) ∧ (v1 = 0 → f_X12_rules_b167 K40 Z Q v0 v1 v2 v3 v4 ((2 : Int32) * v5) (720 : Int32) I L))) ∧ (¬ ((I v0 0) ≤ v6) → ((¬ v1 = (1 : Int32) → f_X12_rules_b139 K40 (f_X12_rules_L105 K40 Z Q n) Z Q v0 v1 v2 v3 v4 v6 v5 I L) ∧ (v1 = (1 : Int32) → (f_X12_mainOf v0 v6 Z I L (fun r27 I24 L25 => (f_X12_has v4 r27 Z I24 L25 (fun r33 I30 L31 => ((r33 = 0 → f_X12_rules_b139 K40 (f_X12_rules_L105 K40 Z Q n) Z Q v0 v1 v2 v3 v4 v6 v5 I30 L31) ∧ (¬ (r33 = 0) → f_X12_rules_b140 K40 (f_X12_rules_L105 K40 Z Q n) Z Q v0 v1 v2 v3 v4 v6 v5 (1 : Int32) I30 L31)))))))))) := h
    obtain ⟨K105, eK105⟩ : ∃ K : Nat → Int32 → Int32 → Int32 → Int32 → Int32 → Int32 → jI → jL → Prop, K = f_X12_rules_L105 K40 Z Q n := ⟨_, rfl⟩
    have hK105 := ih
    clear eK105 K105
    generalize f_X12_rules_L105 K40 Z Q n = K105 at hK105 h
    refine j_iload E dX12_rules_105 6 rfl ?_
    refine j_aload_n E dX12_rules_107 0 rfl ?_
    refine j_geti E 12 0 rfl rfl (by decide) (by decide) (iw iT_12) rfl rfl (tw W_677) kv0 dX12_rules_108 ?_
    refine j_icmp_ge E 149 dX12_rules_111 (by decide) (fun c19 => ?_) (fun c19 => ?_)
    · have h := h.1 c19
      refine j_iconst E (v := 2) dX12_rules_149 (by decide) ?_
      refine j_iload E dX12_rules_150 5 rfl ?_
      refine j_imul E dX12_rules_152 ?_
      refine j_iload_n E dX12_rules_153 1 rfl ?_
      refine j_if_ne E 163 dX12_rules_154 (by decide) (fun c20 => ?_) (fun c20 => ?_)
      · have h := h.1 c20
        refine j_aload_n E dX12_rules_163 0 rfl ?_
        refine j_geti E 12 0 rfl rfl (by decide) (by decide) (iw iT_12) rfl rfl (tw W_677) kv0 dX12_rules_164 ?_
        refine j_sub [0, 1, 2, 3, 4] rfl ?_
        exact m_X12_rules_b167 E hZ K40 hK40 v0 v1 v2 v3 v4 ((2 : Int32) * v5) (I v0 0) I L kv0 h
      · have h := h.2 c20
        refine j_sipush E (v := 720) dX12_rules_157 (by decide) ?_
        refine j_goto E 167 dX12_rules_160 (by decide) ?_
        refine j_sub [0, 1, 2, 3, 4] rfl ?_
        exact m_X12_rules_b167 E hZ K40 hK40 v0 v1 v2 v3 v4 ((2 : Int32) * v5) (720 : Int32) I L kv0 h
    · have h := h.2 c19
      refine j_iload E dX12_rules_114 5 rfl ?_
      refine j_iload_n E dX12_rules_116 1 rfl ?_
      refine j_iconst E (v := 1) dX12_rules_117 (by decide) ?_
      refine j_icmp_ne E 139 dX12_rules_118 (by decide) (fun c21 => ?_) (fun c21 => ?_)
      · have h := h.1 c21
        refine j_sub [0, 1, 2, 3, 4, 6] rfl ?_
        exact m_X12_rules_b139 E hZ K40 hK40 K105 hK105 v0 v1 v2 v3 v4 v6 v5 I L kv0 h
      · have h := h.2 c21
        refine j_iload E dX12_rules_121 4 rfl ?_
        refine j_aload_n E dX12_rules_123 0 rfl ?_
        refine j_iload E dX12_rules_124 6 rfl ?_
        refine j_callV E [.int v6] [.int v4, .int v5] (c_X12_mainOf (gL G) (gD G) (gY G) v0 v6 Z I L _ hZ kv0 h) (gwV W_741 W_742 W_743 W_679 W_740) rfl ⟨rfl, fy_X12_mainOf⟩ ⟨by decide, by decide⟩ (c := 12) rfl (by decide) kv0 rfl rfl (Nat.le_of_ble_eq_true rfl) ⟨Nat.zero_le _, Nat.zero_le _⟩ dX12_rules_126 (fun v22 Z23 I24 L25 q26 => ?_)
        obtain ⟨rfl, r27, rfl, h⟩ := q26
        show jJ G 7 129 [(0, .ref v0), (1, .int v1), (2, .int v2), (3, .int v3), (4, .int v4), (5, .int v5), (6, .int v6)] [.int r27, .int v4, .int v5] Z I24 L25 0 0
        refine j_callS E [.int v4, .int r27] [.int v5] (c_X12_has (gL G) (gD G) (gY G) v4 r27 Z I24 L25 _ hZ  h) (gwS W_804 W_805 W_679 W_803) rfl fy_X12_has ⟨by decide, by decide⟩ rfl rfl (Nat.le_of_ble_eq_true rfl) ⟨Nat.zero_le _, Nat.zero_le _⟩ dX12_rules_129 (fun v28 Z29 I30 L31 q32 => ?_)
        obtain ⟨rfl, r33, rfl, zr33, h⟩ := q32
        show jJ G 7 132 [(0, .ref v0), (1, .int v1), (2, .int v2), (3, .int v3), (4, .int v4), (5, .int v5), (6, .int v6)] [.int r33, .int v5] Z I30 L31 0 0
        refine j_if_eq E 139 dX12_rules_132 (by decide) (fun c34 => ?_) (fun c34 => ?_)
        · have h := h.1 c34
          refine j_sub [0, 1, 2, 3, 4, 6] rfl ?_
          exact m_X12_rules_b139 E hZ K40 hK40 K105 hK105 v0 v1 v2 v3 v4 v6 v5 I30 L31 kv0 h
        · have h := h.2 c34
          refine j_iconst E (v := 1) dX12_rules_135 (by decide) ?_
          refine j_goto E 140 dX12_rules_136 (by decide) ?_
          refine j_sub [0, 1, 2, 3, 4, 6] rfl ?_
          exact m_X12_rules_b140 E hZ K40 hK40 K105 hK105 v0 v1 v2 v3 v4 v6 v5 (1 : Int32) I30 L31 kv0 h
set_option maxRecDepth 100000 in
def f_X12_rules_b93 (K40 : Nat → Int32 → Int32 → Int32 → Int32 → jI → jL → Prop) (K54 : Nat → Int32 → Int32 → Int32 → Int32 → Int32 → Int32 → jI → jL → Prop) (Z : jZ) (Q : Int32 → jI → jL → Prop) (v0 : Nat) (v1 : Int32) (v2 : Int32) (v3 : Int32) (v4 : Int32) (v6 : Int32) (s0 : Int32) (s1 : Int32) (I : jI) (L : jL) : Prop := (∀ x35 : Int32, x35 = (s0 + s1) → (∀ x36 : Int32, x36 = v6 + 1 → K54 v0 v1 v2 v3 v4 x35 x36 I L))
set_option maxHeartbeats 4000000 in
set_option maxRecDepth 100000 in
theorem m_X12_rules_b93 {G : jG} {Z : jZ} {Q : Int32 → jI → jL → Prop} (E : jE G cX12_rules RX12 w_X12_rules 7 (some .int) { frames := 2, cells := 0, slots := 0, locals := 43 } (rtI Z Q)) (hZ : SH Z) (K40 : Nat → Int32 → Int32 → Int32 → Int32 → jI → jL → Prop) (hK40 : ∀ (v0 : Nat) (v1 : Int32) (v2 : Int32) (v3 : Int32) (v4 : Int32) (I : jI) (L : jL), jk Z v0 12 → K40 v0 v1 v2 v3 v4 I L → jJ G 7 40 [(0, .ref v0), (1, .int v1), (2, .int v2), (3, .int v3), (4, .int v4)] [] Z I L 0 0) (K54 : Nat → Int32 → Int32 → Int32 → Int32 → Int32 → Int32 → jI → jL → Prop) (hK54 : ∀ (v0 : Nat) (v1 : Int32) (v2 : Int32) (v3 : Int32) (v4 : Int32) (v5 : Int32) (v6 : Int32) (I : jI) (L : jL), jk Z v0 12 → K54 v0 v1 v2 v3 v4 v5 v6 I L → jJ G 7 54 [(0, .ref v0), (1, .int v1), (2, .int v2), (3, .int v3), (4, .int v4), (5, .int v5), (6, .int v6)] [] Z I L 0 0) (v0 : Nat) (v1 : Int32) (v2 : Int32) (v3 : Int32) (v4 : Int32) (v6 : Int32) (s0 : Int32) (s1 : Int32) (I : jI) (L : jL) (kv0 : jk Z v0 12) (h : f_X12_rules_b93 K40 K54 Z Q v0 v1 v2 v3 v4 v6 s0 s1 I L) : jJ G 7 93 [(0, .ref v0), (1, .int v1), (2, .int v2), (3, .int v3), (4, .int v4), (6, .int v6)] [.int s1, .int s0] Z I L 0 0 := by
  refine j_iadd E dX12_rules_93 ?_
  refine j_topi (fun x35 ex35 => ?_)
  have h := h x35 ex35
  refine j_istore E 5 [(5, .int x35), (0, .ref v0), (1, .int v1), (2, .int v2), (3, .int v3), (4, .int v4), (6, .int v6)] dX12_rules_94 (by decide) rfl ?_
  obtain ⟨x36, ex36⟩ : ∃ y : Int32, y = v6 + 1 := ⟨_, rfl⟩
  have h := h x36 ex36
  refine j_iinc E x36 [(6, .int x36), (5, .int x35), (0, .ref v0), (1, .int v1), (2, .int v2), (3, .int v3), (4, .int v4)] dX12_rules_96 6 rfl (by rw [ex36]; rfl) (by decide) rfl ?_
  refine j_goto E 54 dX12_rules_99 (by decide) ?_
  refine j_sub [2, 3, 4, 5, 6, 1, 0] rfl ?_
  exact hK54 v0 v1 v2 v3 v4 x35 x36 I L kv0 h
set_option maxRecDepth 100000 in
def f_X12_rules_b92 (K40 : Nat → Int32 → Int32 → Int32 → Int32 → jI → jL → Prop) (K54 : Nat → Int32 → Int32 → Int32 → Int32 → Int32 → Int32 → jI → jL → Prop) (Z : jZ) (Q : Int32 → jI → jL → Prop) (v0 : Nat) (v1 : Int32) (v2 : Int32) (v3 : Int32) (v4 : Int32) (v6 : Int32) (s0 : Int32) (I : jI) (L : jL) : Prop := f_X12_rules_b93 K40 K54 Z Q v0 v1 v2 v3 v4 v6 s0 (0 : Int32) I L
set_option maxHeartbeats 4000000 in
set_option maxRecDepth 100000 in
theorem m_X12_rules_b92 {G : jG} {Z : jZ} {Q : Int32 → jI → jL → Prop} (E : jE G cX12_rules RX12 w_X12_rules 7 (some .int) { frames := 2, cells := 0, slots := 0, locals := 43 } (rtI Z Q)) (hZ : SH Z) (K40 : Nat → Int32 → Int32 → Int32 → Int32 → jI → jL → Prop) (hK40 : ∀ (v0 : Nat) (v1 : Int32) (v2 : Int32) (v3 : Int32) (v4 : Int32) (I : jI) (L : jL), jk Z v0 12 → K40 v0 v1 v2 v3 v4 I L → jJ G 7 40 [(0, .ref v0), (1, .int v1), (2, .int v2), (3, .int v3), (4, .int v4)] [] Z I L 0 0) (K54 : Nat → Int32 → Int32 → Int32 → Int32 → Int32 → Int32 → jI → jL → Prop) (hK54 : ∀ (v0 : Nat) (v1 : Int32) (v2 : Int32) (v3 : Int32) (v4 : Int32) (v5 : Int32) (v6 : Int32) (I : jI) (L : jL), jk Z v0 12 → K54 v0 v1 v2 v3 v4 v5 v6 I L → jJ G 7 54 [(0, .ref v0), (1, .int v1), (2, .int v2), (3, .int v3), (4, .int v4), (5, .int v5), (6, .int v6)] [] Z I L 0 0) (v0 : Nat) (v1 : Int32) (v2 : Int32) (v3 : Int32) (v4 : Int32) (v6 : Int32) (s0 : Int32) (I : jI) (L : jL) (kv0 : jk Z v0 12) (h : f_X12_rules_b92 K40 K54 Z Q v0 v1 v2 v3 v4 v6 s0 I L) : jJ G 7 92 [(0, .ref v0), (1, .int v1), (2, .int v2), (3, .int v3), (4, .int v4), (6, .int v6)] [.int s0] Z I L 0 0 := by
  refine j_iconst E (v := 0) dX12_rules_92 (by decide) ?_
  refine j_sub [0, 1, 2, 3, 4, 5] rfl ?_
  exact m_X12_rules_b93 E hZ K40 hK40 K54 hK54 v0 v1 v2 v3 v4 v6 s0 (0 : Int32) I L kv0 h
set_option maxRecDepth 100000 in
def f_X12_rules_L54 (K40 : Nat → Int32 → Int32 → Int32 → Int32 → jI → jL → Prop) (Z : jZ) (Q : Int32 → jI → jL → Prop) : Nat → Nat → Int32 → Int32 → Int32 → Int32 → Int32 → Int32 → jI → jL → Prop
  | 0 => fun _ _ _ _ _ _ _ _ _ => False
  | n + 1 => fun v0 v1 v2 v3 v4 v5 v6 I L => (((8 : Int32) ≤ v6 → (∃ m105 : Nat, f_X12_rules_L105 K40 Z Q m105 v0 v1 v2 v3 v4 v5 (0 : Int32) I L)) ∧ (¬ ((8 : Int32) ≤ v6) → ((¬ v1 = 0 → f_X12_rules_b92 K40 (f_X12_rules_L54 K40 Z Q n) Z Q v0 v1 v2 v3 v4 v6 v5 I L) ∧ (v1 = 0 → (f_X12_has v4 v6 Z I L (fun r45 I42 L43 => ((r45 = 0 → f_X12_rules_b92 K40 (f_X12_rules_L54 K40 Z Q n) Z Q v0 v1 v2 v3 v4 v6 v5 I42 L43) ∧ (¬ (r45 = 0) → (∀ b47 : Nat, jr Z v0 5 = some b47 → (vp_in (((8 : Int32) * v2) + v6) 192 ∧ f_X12_rules_b93 K40 (f_X12_rules_L54 K40 Z Q n) Z Q v0 v1 v2 v3 v4 v6 v5 (I42 b47 (((8 : Int32) * v2) + v6).toNatClampNeg) I42 L43))))))))))
set_option maxHeartbeats 4000000 in
set_option maxRecDepth 100000 in
theorem m_X12_rules_L54 {G : jG} {Z : jZ} {Q : Int32 → jI → jL → Prop} (E : jE G cX12_rules RX12 w_X12_rules 7 (some .int) { frames := 2, cells := 0, slots := 0, locals := 43 } (rtI Z Q)) (hZ : SH Z) (K40 : Nat → Int32 → Int32 → Int32 → Int32 → jI → jL → Prop) (hK40 : ∀ (v0 : Nat) (v1 : Int32) (v2 : Int32) (v3 : Int32) (v4 : Int32) (I : jI) (L : jL), jk Z v0 12 → K40 v0 v1 v2 v3 v4 I L → jJ G 7 40 [(0, .ref v0), (1, .int v1), (2, .int v2), (3, .int v3), (4, .int v4)] [] Z I L 0 0) : ∀ (n : Nat) (v0 : Nat) (v1 : Int32) (v2 : Int32) (v3 : Int32) (v4 : Int32) (v5 : Int32) (v6 : Int32) (I : jI) (L : jL), jk Z v0 12 → f_X12_rules_L54 K40 Z Q n v0 v1 v2 v3 v4 v5 v6 I L → jJ G 7 54 [(0, .ref v0), (1, .int v1), (2, .int v2), (3, .int v3), (4, .int v4), (5, .int v5), (6, .int v6)] [] Z I L 0 0 := by
  intro n
  induction n with
  | zero => intro v0 v1 v2 v3 v4 v5 v6 I L _ h; exact h.elim
  | succ n ih =>
    intro v0 v1 v2 v3 v4 v5 v6 I L kv0 h
    have h : (((8 : Int32) ≤ v6 → (∃ m105 : Nat, f_X12_rules_L105 K40 Z Q m105 v0 v1 v2 v3 v4 v5 (0 : Int32) I L)) ∧ (¬ ((8 : Int32) ≤ v6) → ((¬ v1 = 0 → f_X12_rules_b92 K40 (f_X12_rules_L54 K40 Z Q n) Z Q v0 v1 v2 v3 v4 v6 v5 I L) ∧ (v1 = 0 → (f_X12_has v4 v6 Z I L (fun r45 I42 L43 => ((r45 = 0 → f_X12_rules_b92 K40 (f_X12_rules_L54 K40 Z Q n) Z Q v0 v1 v2 v3 v4 v6 v5 I42 L43) ∧ (¬ (r45 = 0) → (∀ b47 : Nat, jr Z v0 5 = some b47 → (vp_in (((8 : Int32) * v2) + v6) 192 ∧ f_X12_rules_b93 K40 (f_X12_rules_L54 K40 Z Q n) Z Q v0 v1 v2 v3 v4 v6 v5 (I42 b47 (((8 : Int32) * v2) + v6).toNatClampNeg) I42 L43)))))))))) := h
    obtain ⟨K54, eK54⟩ : ∃ K : Nat → Int32 → Int32 → Int32 → Int32 → Int32 → Int32 → jI → jL → Prop, K = f_X12_rules_L54 K40 Z Q n := ⟨_, rfl⟩
    have hK54 := ih
    clear eK54 K54
    generalize f_X12_rules_L54 K40 Z Q n = K54 at hK54 h
    refine j_iload E dX12_rules_54 6 rfl ?_
    refine j_bipush E (v := 8) dX12_rules_56 (by decide) ?_
    refine j_icmp_ge E 102 dX12_rules_58 (by decide) (fun c37 => ?_) (fun c37 => ?_)
    · have h := h.1 c37
      refine j_iconst E (v := 0) dX12_rules_102 (by decide) ?_
      refine j_istore E 6 [(6, .int (0 : Int32)), (0, .ref v0), (1, .int v1), (2, .int v2), (3, .int v3), (4, .int v4), (5, .int v5)] dX12_rules_103 (by decide) rfl ?_
      obtain ⟨n38, h⟩ := h
      refine j_sub [1, 2, 3, 4, 5, 6, 0] rfl ?_
      exact m_X12_rules_L105 E hZ K40 hK40 n38 v0 v1 v2 v3 v4 v5 (0 : Int32) I L kv0 h
    · have h := h.2 c37
      refine j_iload E dX12_rules_61 5 rfl ?_
      refine j_iload_n E dX12_rules_63 1 rfl ?_
      refine j_if_ne E 92 dX12_rules_64 (by decide) (fun c39 => ?_) (fun c39 => ?_)
      · have h := h.1 c39
        refine j_sub [0, 1, 2, 3, 4, 6] rfl ?_
        exact m_X12_rules_b92 E hZ K40 hK40 K54 hK54 v0 v1 v2 v3 v4 v6 v5 I L kv0 h
      · have h := h.2 c39
        refine j_iload E dX12_rules_67 4 rfl ?_
        refine j_iload E dX12_rules_69 6 rfl ?_
        refine j_callS E [.int v4, .int v6] [.int v5] (c_X12_has (gL G) (gD G) (gY G) v4 v6 Z I L _ hZ  h) (gwS W_804 W_805 W_679 W_803) rfl fy_X12_has ⟨by decide, by decide⟩ rfl rfl (Nat.le_of_ble_eq_true rfl) ⟨Nat.zero_le _, Nat.zero_le _⟩ dX12_rules_71 (fun v40 Z41 I42 L43 q44 => ?_)
        obtain ⟨rfl, r45, rfl, zr45, h⟩ := q44
        show jJ G 7 74 [(0, .ref v0), (1, .int v1), (2, .int v2), (3, .int v3), (4, .int v4), (5, .int v5), (6, .int v6)] [.int r45, .int v5] Z I42 L43 0 0
        refine j_if_eq E 92 dX12_rules_74 (by decide) (fun c46 => ?_) (fun c46 => ?_)
        · have h := h.1 c46
          refine j_sub [0, 1, 2, 3, 4, 6] rfl ?_
          exact m_X12_rules_b92 E hZ K40 hK40 K54 hK54 v0 v1 v2 v3 v4 v6 v5 I42 L43 kv0 h
        · have h := h.2 c46
          refine j_aload_n E dX12_rules_77 0 rfl ?_
          obtain ⟨b47, eb47, kb47, lb47⟩ := sh_f hZ kv0 (j := 5) (k := 14) (m := 192) rfl
          have h := h b47 eb47
          refine j_getr E 12 5 rfl rfl (by decide) (by decide) (iw iT_12) rfl rfl (tw W_683) kv0 eb47 dX12_rules_78 ?_
          refine j_bipush E (v := 8) dX12_rules_81 (by decide) ?_
          refine j_iload_n E dX12_rules_83 2 rfl ?_
          refine j_imul E dX12_rules_84 ?_
          refine j_iload E dX12_rules_85 6 rfl ?_
          refine j_iadd E dX12_rules_87 ?_
          obtain ⟨o48, h⟩ := h
          refine j_iald E kb47 (by rw [lb47]; exact o48) dX12_rules_88 ?_
          refine j_goto E 93 dX12_rules_89 (by decide) ?_
          refine j_sub [0, 1, 2, 3, 4, 6] rfl ?_
          exact m_X12_rules_b93 E hZ K40 hK40 K54 hK54 v0 v1 v2 v3 v4 v6 v5 (I42 b47 (((8 : Int32) * v2) + v6).toNatClampNeg) I42 L43 kv0 h
set_option maxRecDepth 100000 in
def f_X12_rules_L40  (Z : jZ) (Q : Int32 → jI → jL → Prop) : Nat → Nat → Int32 → Int32 → Int32 → Int32 → jI → jL → Prop
  | 0 => fun _ _ _ _ _ _ _ => False
  | n + 1 => fun v0 v1 v2 v3 v4 I L => (((256 : Int32) ≤ v4 → (∀ I50 : jI, I50 = jpI I v0 21 (0 : Int32) → (f_X12_tell v0 (v3.toInt64) Z I50 L (fun I53 L54 => (f_J6_bitCount_0f7a4 v3 Z I53 L54 (fun r61 I58 L59 => Q r61 I58 L59)))))) ∧ (¬ ((256 : Int32) ≤ v4) → (∃ m54 : Nat, f_X12_rules_L54 (f_X12_rules_L40 Z Q n) Z Q m54 v0 v1 v2 v3 v4 (0 : Int32) (0 : Int32) I L)))
set_option maxHeartbeats 4000000 in
set_option maxRecDepth 100000 in
theorem m_X12_rules_L40 {G : jG} {Z : jZ} {Q : Int32 → jI → jL → Prop} (E : jE G cX12_rules RX12 w_X12_rules 7 (some .int) { frames := 2, cells := 0, slots := 0, locals := 43 } (rtI Z Q)) (hZ : SH Z)  : ∀ (n : Nat) (v0 : Nat) (v1 : Int32) (v2 : Int32) (v3 : Int32) (v4 : Int32) (I : jI) (L : jL), jk Z v0 12 → f_X12_rules_L40  Z Q n v0 v1 v2 v3 v4 I L → jJ G 7 40 [(0, .ref v0), (1, .int v1), (2, .int v2), (3, .int v3), (4, .int v4)] [] Z I L 0 0 := by
  intro n
  induction n with
  | zero => intro v0 v1 v2 v3 v4 I L _ h; exact h.elim
  | succ n ih =>
    intro v0 v1 v2 v3 v4 I L kv0 h
    have h : (((256 : Int32) ≤ v4 → (∀ I50 : jI, I50 = jpI I v0 21 (0 : Int32) → (f_X12_tell v0 (v3.toInt64) Z I50 L (fun I53 L54 => (f_J6_bitCount_0f7a4 v3 Z I53 L54 (fun r61 I58 L59 => Q r61 I58 L59)))))) ∧ (¬ ((256 : Int32) ≤ v4) → (∃ m54 : Nat, f_X12_rules_L54 (f_X12_rules_L40 Z Q n) Z Q m54 v0 v1 v2 v3 v4 (0 : Int32) (0 : Int32) I L))) := h
    obtain ⟨K40, eK40⟩ : ∃ K : Nat → Int32 → Int32 → Int32 → Int32 → jI → jL → Prop, K = f_X12_rules_L40  Z Q n := ⟨_, rfl⟩
    have hK40 := ih
    clear eK40 K40
    generalize f_X12_rules_L40  Z Q n = K40 at hK40 h
    refine j_iload E dX12_rules_40 4 rfl ?_
    refine j_sipush E (v := 256) dX12_rules_42 (by decide) ?_
    refine j_icmp_ge E 198 dX12_rules_45 (by decide) (fun c49 => ?_) (fun c49 => ?_)
    · have h := h.1 c49
      refine j_aload_n E dX12_rules_198 0 rfl ?_
      refine j_iconst E (v := 0) dX12_rules_199 (by decide) ?_
      refine j_puti E 12 21 rfl rfl (by decide) (by decide) (iw iT_12) tyX12_ok nmX12 rfl rfl (tw W_676) rfl rfl rfl kv0 dX12_rules_200 ?_
      refine j_nmI (fun I50 eI50 => ?_)
      have h := h I50 eI50
      refine j_aload_n E dX12_rules_203 0 rfl ?_
      refine j_iload_n E dX12_rules_204 3 rfl ?_
      refine j_i2l E dX12_rules_205 ?_
      refine j_callV E [.long (v3.toInt64)] [] (c_X12_tell (gL G) (gD G) (gY G) v0 (v3.toInt64) Z I50 L _ hZ kv0 h) (gwV W_784 W_785 W_786 W_679 W_783) rfl ⟨rfl, fy_X12_tell⟩ ⟨by decide, by decide⟩ (c := 12) rfl (by decide) kv0 rfl rfl (Nat.le_of_ble_eq_true rfl) ⟨Nat.zero_le _, Nat.zero_le _⟩ dX12_rules_206 (fun v51 Z52 I53 L54 q55 => ?_)
      obtain ⟨rfl, rfl, h⟩ := q55
      show jJ G 7 209 [(0, .ref v0), (1, .int v1), (2, .int v2), (3, .int v3), (4, .int v4)] [] Z I53 L54 0 0
      refine j_iload_n E dX12_rules_209 3 rfl ?_
      refine j_callS E [.int v3] [] (c_J6_bitCount_0f7a4 (gL G) (gD G) (gY G) v3 Z I53 L54 _ hZ  h) (gwS W_879 W_236 W_234 W_233) rfl fy_J6_bitCount_0f7a4 ⟨by decide, by decide⟩ rfl rfl (Nat.le_of_ble_eq_true rfl) ⟨Nat.zero_le _, Nat.zero_le _⟩ dX12_rules_210 (fun v56 Z57 I58 L59 q60 => ?_)
      obtain ⟨rfl, r61, rfl, h⟩ := q60
      show jJ G 7 213 [(0, .ref v0), (1, .int v1), (2, .int v2), (3, .int v3), (4, .int v4)] [.int r61] Z I58 L59 0 0
      exact j_ireturn E ⟨rfl, _, rfl, h⟩ (Nat.zero_le _) (Nat.zero_le _) dX12_rules_213
    · have h := h.2 c49
      refine j_iconst E (v := 0) dX12_rules_48 (by decide) ?_
      refine j_istore E 5 [(5, .int (0 : Int32)), (0, .ref v0), (1, .int v1), (2, .int v2), (3, .int v3), (4, .int v4)] dX12_rules_49 (by decide) rfl ?_
      refine j_iconst E (v := 0) dX12_rules_51 (by decide) ?_
      refine j_istore E 6 [(6, .int (0 : Int32)), (5, .int (0 : Int32)), (0, .ref v0), (1, .int v1), (2, .int v2), (3, .int v3), (4, .int v4)] dX12_rules_52 (by decide) rfl ?_
      obtain ⟨n62, h⟩ := h
      refine j_sub [2, 3, 4, 5, 6, 1, 0] rfl ?_
      exact m_X12_rules_L54 E hZ K40 hK40 n62 v0 v1 v2 v3 v4 (0 : Int32) (0 : Int32) I L kv0 h
set_option maxRecDepth 100000 in
def f_X12_rules_b35  (Z : jZ) (Q : Int32 → jI → jL → Prop) (v0 : Nat) (v1 : Int32) (v2 : Int32) (I : jI) (L : jL) : Prop := (∃ m40 : Nat, f_X12_rules_L40  Z Q m40 v0 v1 v2 (0 : Int32) (1 : Int32) I L)
set_option maxHeartbeats 4000000 in
set_option maxRecDepth 100000 in
theorem m_X12_rules_b35 {G : jG} {Z : jZ} {Q : Int32 → jI → jL → Prop} (E : jE G cX12_rules RX12 w_X12_rules 7 (some .int) { frames := 2, cells := 0, slots := 0, locals := 43 } (rtI Z Q)) (hZ : SH Z)  (v0 : Nat) (v1 : Int32) (v2 : Int32) (I : jI) (L : jL) (kv0 : jk Z v0 12) (h : f_X12_rules_b35  Z Q v0 v1 v2 I L) : jJ G 7 35 [(0, .ref v0), (1, .int v1), (2, .int v2)] [] Z I L 0 0 := by
  refine j_iconst E (v := 0) dX12_rules_35 (by decide) ?_
  refine j_istore_n E 3 [(3, .int (0 : Int32)), (0, .ref v0), (1, .int v1), (2, .int v2)] dX12_rules_36 rfl (by decide) rfl ?_
  refine j_iconst E (v := 1) dX12_rules_37 (by decide) ?_
  refine j_istore E 4 [(4, .int (1 : Int32)), (3, .int (0 : Int32)), (0, .ref v0), (1, .int v1), (2, .int v2)] dX12_rules_38 (by decide) rfl ?_
  obtain ⟨n63, h⟩ := h
  refine j_sub [2, 3, 4, 1, 0] rfl ?_
  exact m_X12_rules_L40 E hZ  n63 v0 v1 v2 (0 : Int32) (1 : Int32) I L kv0 h
set_option maxRecDepth 100000 in
def f_X12_rules (v0 : Nat) (v1 : Int32) (v2 : Int32) (Z : jZ) (I : jI) (L : jL) (Q : Int32 → jI → jL → Prop) : Prop := (∀ I64 : jI, I64 = jpI I v0 22 (0 : Int32) → (((I64 v0 0) = 0 → Q (-1 : Int32) I64 L) ∧ (¬ ((I64 v0 0) = 0) → (f_X12_in v1 (0 : Int32) (1 : Int32) Z I64 L (fun r71 I68 L69 => ((r71 = 0 → Q (-1 : Int32) I68 L69) ∧ (¬ (r71 = 0) → ((¬ v1 = 0 → f_X12_rules_b35  Z Q v0 v1 v2 I68 L69) ∧ (v1 = 0 → (f_X12_isStep v0 v2 Z I68 L69 (fun r79 I76 L77 => ((¬ r79 = 0 → f_X12_rules_b35  Z Q v0 v1 v2 I76 L77) ∧ (r79 = 0 → Q (-1 : Int32) I76 L77)))))))))))))
set_option maxHeartbeats 4000000 in
set_option maxRecDepth 100000 in
theorem c_X12_rules (l : Launch) (D : va_G) (cy : jC) (v0 : Nat) (v1 : Int32) (v2 : Int32) (Z : jZ) (I : jI) (L : jL) (Q : Int32 → jI → jL → Prop) (hZ : SH Z) (kv0 : jk Z v0 12) (h : f_X12_rules v0 v1 v2 Z I L Q) : jCt l yX12_rules w_X12_rules { frames := 2, cells := 0, slots := 0, locals := 43 } D cy [.ref v0, .int v1, .int v2] Z I L (rtI Z Q) := by
  refine jCt_of (cc := cX12_rules) (maxL := 7) (ret := (some .int)) (by decide +kernel) rfl (Nat.le_of_ble_eq_true rfl) ?_
  intro G eD eY eL E
  subst eD; subst eY; subst eL
  have E : jE G cX12_rules RX12 w_X12_rules 7 (some .int) { frames := 2, cells := 0, slots := 0, locals := 43 } (rtI Z Q) := E
  show jJ G 7 0 [(0, .ref v0), (1, .int v1), (2, .int v2)] [] Z I L 0 0
  refine j_aload_n E dX12_rules_0 0 rfl ?_
  refine j_iconst E (v := 0) dX12_rules_1 (by decide) ?_
  refine j_puti E 12 22 rfl rfl (by decide) (by decide) (iw iT_12) tyX12_ok nmX12 rfl rfl (tw W_674) rfl rfl rfl kv0 dX12_rules_2 ?_
  refine j_nmI (fun I64 eI64 => ?_)
  have h := h I64 eI64
  refine j_aload_n E dX12_rules_5 0 rfl ?_
  refine j_geti E 12 0 rfl rfl (by decide) (by decide) (iw iT_12) rfl rfl (tw W_677) kv0 dX12_rules_6 ?_
  refine j_if_eq E 33 dX12_rules_9 (by decide) (fun c65 => ?_) (fun c65 => ?_)
  · have h := h.1 c65
    refine j_iconst E (v := -1) dX12_rules_33 (by decide) ?_
    exact j_ireturn E ⟨rfl, _, rfl, h⟩ (Nat.zero_le _) (Nat.zero_le _) dX12_rules_34
  · have h := h.2 c65
    refine j_iload_n E dX12_rules_12 1 rfl ?_
    refine j_iconst E (v := 0) dX12_rules_13 (by decide) ?_
    refine j_iconst E (v := 1) dX12_rules_14 (by decide) ?_
    refine j_callS E [.int v1, .int (0 : Int32), .int (1 : Int32)] [] (c_X12_in (gL G) (gD G) (gY G) v1 (0 : Int32) (1 : Int32) Z I64 L _ hZ  h) (gwS W_680 W_681 W_679 W_678) rfl fy_X12_in ⟨by decide, by decide⟩ rfl rfl (Nat.le_of_ble_eq_true rfl) ⟨Nat.zero_le _, Nat.zero_le _⟩ dX12_rules_15 (fun v66 Z67 I68 L69 q70 => ?_)
    obtain ⟨rfl, r71, rfl, zr71, h⟩ := q70
    show jJ G 7 18 [(0, .ref v0), (1, .int v1), (2, .int v2)] [.int r71] Z I68 L69 0 0
    refine j_if_eq E 33 dX12_rules_18 (by decide) (fun c72 => ?_) (fun c72 => ?_)
    · have h := h.1 c72
      refine j_iconst E (v := -1) dX12_rules_33 (by decide) ?_
      exact j_ireturn E ⟨rfl, _, rfl, h⟩ (Nat.zero_le _) (Nat.zero_le _) dX12_rules_34
    · have h := h.2 c72
      refine j_iload_n E dX12_rules_21 1 rfl ?_
      refine j_if_ne E 35 dX12_rules_22 (by decide) (fun c73 => ?_) (fun c73 => ?_)
      · have h := h.1 c73
        refine j_sub [0, 1, 2] rfl ?_
        exact m_X12_rules_b35 E hZ  v0 v1 v2 I68 L69 kv0 h
      · have h := h.2 c73
        refine j_aload_n E dX12_rules_25 0 rfl ?_
        refine j_iload_n E dX12_rules_26 2 rfl ?_
        refine j_callV E [.int v2] [] (c_X12_isStep (gL G) (gD G) (gY G) v0 v2 Z I68 L69 _ hZ kv0 h) (gwV W_752 W_753 W_754 W_679 W_751) rfl ⟨rfl, fy_X12_isStep⟩ ⟨by decide, by decide⟩ (c := 12) rfl (by decide) kv0 rfl rfl (Nat.le_of_ble_eq_true rfl) ⟨Nat.zero_le _, Nat.zero_le _⟩ dX12_rules_27 (fun v74 Z75 I76 L77 q78 => ?_)
        obtain ⟨rfl, r79, rfl, zr79, h⟩ := q78
        show jJ G 7 30 [(0, .ref v0), (1, .int v1), (2, .int v2)] [.int r79] Z I76 L77 0 0
        refine j_if_ne E 35 dX12_rules_30 (by decide) (fun c80 => ?_) (fun c80 => ?_)
        · have h := h.1 c80
          refine j_sub [0, 1, 2] rfl ?_
          exact m_X12_rules_b35 E hZ  v0 v1 v2 I76 L77 kv0 h
        · have h := h.2 c80
          refine j_iconst E (v := -1) dX12_rules_33 (by decide) ?_
          exact j_ireturn E ⟨rfl, _, rfl, h⟩ (Nat.zero_le _) (Nat.zero_le _) dX12_rules_34
set_option maxRecDepth 100000 in
def f_X12_placeOf (v0 : Nat) (v1 : Int32) (Z : jZ) (I : jI) (L : jL) (Q : Int32 → jI → jL → Prop) : Prop := (∀ b1 : Nat, jr Z v0 57 = some b1 → (vp_in v1 6 ∧ ((¬ (I b1 v1.toNatClampNeg) = 0 → (∀ b4 : Nat, jr Z v0 55 = some b4 → (∀ b5 : Nat, jr Z v0 57 = some b5 → (vp_in v1 6 ∧ (vp_in ((((24 : Int32) * v1) + (I b5 v1.toNatClampNeg)) - (1 : Int32)) 144 ∧ Q (I b4 ((((24 : Int32) * v1) + (I b5 v1.toNatClampNeg)) - (1 : Int32)).toNatClampNeg) I L))))) ∧ ((I b1 v1.toNatClampNeg) = 0 → Q (-1 : Int32) I L))))
set_option maxHeartbeats 4000000 in
set_option maxRecDepth 100000 in
theorem c_X12_placeOf (l : Launch) (D : va_G) (cy : jC) (v0 : Nat) (v1 : Int32) (Z : jZ) (I : jI) (L : jL) (Q : Int32 → jI → jL → Prop) (hZ : SH Z) (kv0 : jk Z v0 12) (h : f_X12_placeOf v0 v1 Z I L Q) : jCt l yX12_placeOf w_X12_placeOf { frames := 0, cells := 0, slots := 0, locals := 0 } D cy [.ref v0, .int v1] Z I L (rtI Z Q) := by
  refine jCt_of (cc := cX12_placeOf) (maxL := 2) (ret := (some .int)) (by decide +kernel) rfl (Nat.le_of_ble_eq_true rfl) ?_
  intro G eD eY eL E
  subst eD; subst eY; subst eL
  have E : jE G cX12_placeOf RX12 w_X12_placeOf 2 (some .int) { frames := 0, cells := 0, slots := 0, locals := 0 } (rtI Z Q) := E
  show jJ G 2 0 [(0, .ref v0), (1, .int v1)] [] Z I L 0 0
  refine j_aload_n E dX12_placeOf_0 0 rfl ?_
  obtain ⟨b1, eb1, kb1, lb1⟩ := sh_f hZ kv0 (j := 57) (k := 14) (m := 6) rfl
  have h := h b1 eb1
  refine j_getr E 12 57 rfl rfl (by decide) (by decide) (iw iT_12) rfl rfl (tw W_880) kv0 eb1 dX12_placeOf_1 ?_
  refine j_iload_n E dX12_placeOf_4 1 rfl ?_
  obtain ⟨o2, h⟩ := h
  refine j_iald E kb1 (by rw [lb1]; exact o2) dX12_placeOf_5 ?_
  refine j_if_ne E 13 dX12_placeOf_6 (by decide) (fun c3 => ?_) (fun c3 => ?_)
  · have h := h.1 c3
    refine j_aload_n E dX12_placeOf_13 0 rfl ?_
    obtain ⟨b4, eb4, kb4, lb4⟩ := sh_f hZ kv0 (j := 55) (k := 14) (m := 144) rfl
    have h := h b4 eb4
    refine j_getr E 12 55 rfl rfl (by decide) (by decide) (iw iT_12) rfl rfl (tw W_881) kv0 eb4 dX12_placeOf_14 ?_
    refine j_bipush E (v := 24) dX12_placeOf_17 (by decide) ?_
    refine j_iload_n E dX12_placeOf_19 1 rfl ?_
    refine j_imul E dX12_placeOf_20 ?_
    refine j_aload_n E dX12_placeOf_21 0 rfl ?_
    obtain ⟨b5, eb5, kb5, lb5⟩ := sh_f hZ kv0 (j := 57) (k := 14) (m := 6) rfl
    have h := h b5 eb5
    refine j_getr E 12 57 rfl rfl (by decide) (by decide) (iw iT_12) rfl rfl (tw W_880) kv0 eb5 dX12_placeOf_22 ?_
    refine j_iload_n E dX12_placeOf_25 1 rfl ?_
    obtain ⟨o6, h⟩ := h
    refine j_iald E kb5 (by rw [lb5]; exact o6) dX12_placeOf_26 ?_
    refine j_iadd E dX12_placeOf_27 ?_
    refine j_iconst E (v := 1) dX12_placeOf_28 (by decide) ?_
    refine j_isub E dX12_placeOf_29 ?_
    obtain ⟨o7, h⟩ := h
    refine j_iald E kb4 (by rw [lb4]; exact o7) dX12_placeOf_30 ?_
    exact j_ireturn E ⟨rfl, _, rfl, h⟩ (Nat.zero_le _) (Nat.zero_le _) dX12_placeOf_31
  · have h := h.2 c3
    refine j_iconst E (v := -1) dX12_placeOf_9 (by decide) ?_
    refine j_goto E 31 dX12_placeOf_10 (by decide) ?_
    exact j_ireturn E ⟨rfl, _, rfl, h⟩ (Nat.zero_le _) (Nat.zero_le _) dX12_placeOf_31
set_option maxRecDepth 100000 in
def f_X12_onStep_b36 (K4 : Nat → Int32 → Int32 → Int32 → jI → jL → Prop) (Z : jZ) (Q : Int32 → jI → jL → Prop) (v0 : Nat) (v1 : Int32) (v3 : Int32) (s0 : Int32) (s1 : Int32) (I : jI) (L : jL) : Prop := (∀ x1 : Int32, x1 = (s0 + s1) → (∀ x2 : Int32, x2 = v3 + 1 → K4 v0 v1 x1 x2 I L))
set_option maxHeartbeats 4000000 in
set_option maxRecDepth 100000 in
theorem m_X12_onStep_b36 {G : jG} {Z : jZ} {Q : Int32 → jI → jL → Prop} (E : jE G cX12_onStep RX12 w_X12_onStep 4 (some .int) { frames := 1, cells := 0, slots := 0, locals := 21 } (rtI Z Q)) (hZ : SH Z) (K4 : Nat → Int32 → Int32 → Int32 → jI → jL → Prop) (hK4 : ∀ (v0 : Nat) (v1 : Int32) (v2 : Int32) (v3 : Int32) (I : jI) (L : jL), jk Z v0 12 → K4 v0 v1 v2 v3 I L → jJ G 4 4 [(0, .ref v0), (1, .int v1), (2, .int v2), (3, .int v3)] [] Z I L 0 0) (v0 : Nat) (v1 : Int32) (v3 : Int32) (s0 : Int32) (s1 : Int32) (I : jI) (L : jL) (kv0 : jk Z v0 12) (h : f_X12_onStep_b36 K4 Z Q v0 v1 v3 s0 s1 I L) : jJ G 4 36 [(0, .ref v0), (1, .int v1), (3, .int v3)] [.int s1, .int s0] Z I L 0 0 := by
  refine j_iadd E dX12_onStep_36 ?_
  refine j_topi (fun x1 ex1 => ?_)
  have h := h x1 ex1
  refine j_istore_n E 2 [(2, .int x1), (0, .ref v0), (1, .int v1), (3, .int v3)] dX12_onStep_37 rfl (by decide) rfl ?_
  obtain ⟨x2, ex2⟩ : ∃ y : Int32, y = v3 + 1 := ⟨_, rfl⟩
  have h := h x2 ex2
  refine j_iinc E x2 [(3, .int x2), (2, .int x1), (0, .ref v0), (1, .int v1)] dX12_onStep_38 3 rfl (by rw [ex2]; rfl) (by decide) rfl ?_
  refine j_goto E 4 dX12_onStep_41 (by decide) ?_
  refine j_sub [2, 3, 1, 0] rfl ?_
  exact hK4 v0 v1 x1 x2 I L kv0 h
set_option maxRecDepth 100000 in
def f_X12_onStep_b35 (K4 : Nat → Int32 → Int32 → Int32 → jI → jL → Prop) (Z : jZ) (Q : Int32 → jI → jL → Prop) (v0 : Nat) (v1 : Int32) (v3 : Int32) (s0 : Int32) (I : jI) (L : jL) : Prop := f_X12_onStep_b36 K4 Z Q v0 v1 v3 s0 (0 : Int32) I L
set_option maxHeartbeats 4000000 in
set_option maxRecDepth 100000 in
theorem m_X12_onStep_b35 {G : jG} {Z : jZ} {Q : Int32 → jI → jL → Prop} (E : jE G cX12_onStep RX12 w_X12_onStep 4 (some .int) { frames := 1, cells := 0, slots := 0, locals := 21 } (rtI Z Q)) (hZ : SH Z) (K4 : Nat → Int32 → Int32 → Int32 → jI → jL → Prop) (hK4 : ∀ (v0 : Nat) (v1 : Int32) (v2 : Int32) (v3 : Int32) (I : jI) (L : jL), jk Z v0 12 → K4 v0 v1 v2 v3 I L → jJ G 4 4 [(0, .ref v0), (1, .int v1), (2, .int v2), (3, .int v3)] [] Z I L 0 0) (v0 : Nat) (v1 : Int32) (v3 : Int32) (s0 : Int32) (I : jI) (L : jL) (kv0 : jk Z v0 12) (h : f_X12_onStep_b35 K4 Z Q v0 v1 v3 s0 I L) : jJ G 4 35 [(0, .ref v0), (1, .int v1), (3, .int v3)] [.int s0] Z I L 0 0 := by
  refine j_iconst E (v := 0) dX12_onStep_35 (by decide) ?_
  refine j_sub [0, 1, 2] rfl ?_
  exact m_X12_onStep_b36 E hZ K4 hK4 v0 v1 v3 s0 (0 : Int32) I L kv0 h
set_option maxRecDepth 100000 in
def f_X12_onStep_L4  (Z : jZ) (Q : Int32 → jI → jL → Prop) : Nat → Nat → Int32 → Int32 → Int32 → jI → jL → Prop
  | 0 => fun _ _ _ _ _ _ => False
  | n + 1 => fun v0 v1 v2 v3 I L => (((I v0 8) ≤ v3 → Q v2 I L) ∧ (¬ ((I v0 8) ≤ v3) → (∀ b4 : Nat, jr Z v0 56 = some b4 → (vp_in v3 6 ∧ (((I b4 v3.toNatClampNeg) ≤ 0 → f_X12_onStep_b35 (f_X12_onStep_L4 Z Q n) Z Q v0 v1 v3 v2 I L) ∧ (¬ ((I b4 v3.toNatClampNeg) ≤ 0) → (f_X12_placeOf v0 v3 Z I L (fun r12 I9 L10 => ((¬ r12 = v1 → f_X12_onStep_b35 (f_X12_onStep_L4 Z Q n) Z Q v0 v1 v3 v2 I9 L10) ∧ (r12 = v1 → f_X12_onStep_b36 (f_X12_onStep_L4 Z Q n) Z Q v0 v1 v3 v2 (1 : Int32) I9 L10))))))))))
set_option maxHeartbeats 4000000 in
set_option maxRecDepth 100000 in
theorem m_X12_onStep_L4 {G : jG} {Z : jZ} {Q : Int32 → jI → jL → Prop} (E : jE G cX12_onStep RX12 w_X12_onStep 4 (some .int) { frames := 1, cells := 0, slots := 0, locals := 21 } (rtI Z Q)) (hZ : SH Z)  : ∀ (n : Nat) (v0 : Nat) (v1 : Int32) (v2 : Int32) (v3 : Int32) (I : jI) (L : jL), jk Z v0 12 → f_X12_onStep_L4  Z Q n v0 v1 v2 v3 I L → jJ G 4 4 [(0, .ref v0), (1, .int v1), (2, .int v2), (3, .int v3)] [] Z I L 0 0 := by
  intro n
  induction n with
  | zero => intro v0 v1 v2 v3 I L _ h; exact h.elim
  | succ n ih =>
    intro v0 v1 v2 v3 I L kv0 h
    have h : (((I v0 8) ≤ v3 → Q v2 I L) ∧ (¬ ((I v0 8) ≤ v3) → (∀ b4 : Nat, jr Z v0 56 = some b4 → (vp_in v3 6 ∧ (((I b4 v3.toNatClampNeg) ≤ 0 → f_X12_onStep_b35 (f_X12_onStep_L4 Z Q n) Z Q v0 v1 v3 v2 I L) ∧ (¬ ((I b4 v3.toNatClampNeg) ≤ 0) → (f_X12_placeOf v0 v3 Z I L (fun r12 I9 L10 => ((¬ r12 = v1 → f_X12_onStep_b35 (f_X12_onStep_L4 Z Q n) Z Q v0 v1 v3 v2 I9 L10) ∧ (r12 = v1 → f_X12_onStep_b36 (f_X12_onStep_L4 Z Q n) Z Q v0 v1 v3 v2 (1 : Int32) I9 L10)))))))))) := h
    obtain ⟨K4, eK4⟩ : ∃ K : Nat → Int32 → Int32 → Int32 → jI → jL → Prop, K = f_X12_onStep_L4  Z Q n := ⟨_, rfl⟩
    have hK4 := ih
    clear eK4 K4
    generalize f_X12_onStep_L4  Z Q n = K4 at hK4 h
    refine j_iload_n E dX12_onStep_4 3 rfl ?_
    refine j_aload_n E dX12_onStep_5 0 rfl ?_
    refine j_geti E 12 8 rfl rfl (by decide) (by decide) (iw iT_12) rfl rfl (tw W_682) kv0 dX12_onStep_6 ?_
    refine j_icmp_ge E 44 dX12_onStep_9 (by decide) (fun c3 => ?_) (fun c3 => ?_)
    · have h := h.1 c3
      refine j_iload_n E dX12_onStep_44 2 rfl ?_
      exact j_ireturn E ⟨rfl, _, rfl, h⟩ (Nat.zero_le _) (Nat.zero_le _) dX12_onStep_45
    · have h := h.2 c3
      refine j_iload_n E dX12_onStep_12 2 rfl ?_
      refine j_aload_n E dX12_onStep_13 0 rfl ?_
      obtain ⟨b4, eb4, kb4, lb4⟩ := sh_f hZ kv0 (j := 56) (k := 14) (m := 6) rfl
      have h := h b4 eb4
      refine j_getr E 12 56 rfl rfl (by decide) (by decide) (iw iT_12) rfl rfl (tw W_882) kv0 eb4 dX12_onStep_14 ?_
      refine j_iload_n E dX12_onStep_17 3 rfl ?_
      obtain ⟨o5, h⟩ := h
      refine j_iald E kb4 (by rw [lb4]; exact o5) dX12_onStep_18 ?_
      refine j_if_le E 35 dX12_onStep_19 (by decide) (fun c6 => ?_) (fun c6 => ?_)
      · have h := h.1 c6
        refine j_sub [0, 1, 3] rfl ?_
        exact m_X12_onStep_b35 E hZ K4 hK4 v0 v1 v3 v2 I L kv0 h
      · have h := h.2 c6
        refine j_aload_n E dX12_onStep_22 0 rfl ?_
        refine j_iload_n E dX12_onStep_23 3 rfl ?_
        refine j_callV E [.int v3] [.int v2] (c_X12_placeOf (gL G) (gD G) (gY G) v0 v3 Z I L _ hZ kv0 h) (gwV W_884 W_885 W_886 W_679 W_883) rfl ⟨rfl, fy_X12_placeOf⟩ ⟨by decide, by decide⟩ (c := 12) rfl (by decide) kv0 rfl rfl (Nat.le_of_ble_eq_true rfl) ⟨Nat.zero_le _, Nat.zero_le _⟩ dX12_onStep_24 (fun v7 Z8 I9 L10 q11 => ?_)
        obtain ⟨rfl, r12, rfl, h⟩ := q11
        show jJ G 4 27 [(0, .ref v0), (1, .int v1), (2, .int v2), (3, .int v3)] [.int r12, .int v2] Z I9 L10 0 0
        refine j_iload_n E dX12_onStep_27 1 rfl ?_
        refine j_icmp_ne E 35 dX12_onStep_28 (by decide) (fun c13 => ?_) (fun c13 => ?_)
        · have h := h.1 c13
          refine j_sub [0, 1, 3] rfl ?_
          exact m_X12_onStep_b35 E hZ K4 hK4 v0 v1 v3 v2 I9 L10 kv0 h
        · have h := h.2 c13
          refine j_iconst E (v := 1) dX12_onStep_31 (by decide) ?_
          refine j_goto E 36 dX12_onStep_32 (by decide) ?_
          refine j_sub [0, 1, 3] rfl ?_
          exact m_X12_onStep_b36 E hZ K4 hK4 v0 v1 v3 v2 (1 : Int32) I9 L10 kv0 h
set_option maxRecDepth 100000 in
def f_X12_onStep (v0 : Nat) (v1 : Int32) (Z : jZ) (I : jI) (L : jL) (Q : Int32 → jI → jL → Prop) : Prop := (∃ m4 : Nat, f_X12_onStep_L4  Z Q m4 v0 v1 (0 : Int32) (0 : Int32) I L)
set_option maxHeartbeats 4000000 in
set_option maxRecDepth 100000 in
theorem c_X12_onStep (l : Launch) (D : va_G) (cy : jC) (v0 : Nat) (v1 : Int32) (Z : jZ) (I : jI) (L : jL) (Q : Int32 → jI → jL → Prop) (hZ : SH Z) (kv0 : jk Z v0 12) (h : f_X12_onStep v0 v1 Z I L Q) : jCt l yX12_onStep w_X12_onStep { frames := 1, cells := 0, slots := 0, locals := 21 } D cy [.ref v0, .int v1] Z I L (rtI Z Q) := by
  refine jCt_of (cc := cX12_onStep) (maxL := 4) (ret := (some .int)) (by decide +kernel) rfl (Nat.le_of_ble_eq_true rfl) ?_
  intro G eD eY eL E
  subst eD; subst eY; subst eL
  have E : jE G cX12_onStep RX12 w_X12_onStep 4 (some .int) { frames := 1, cells := 0, slots := 0, locals := 21 } (rtI Z Q) := E
  show jJ G 4 0 [(0, .ref v0), (1, .int v1)] [] Z I L 0 0
  refine j_iconst E (v := 0) dX12_onStep_0 (by decide) ?_
  refine j_istore_n E 2 [(2, .int (0 : Int32)), (0, .ref v0), (1, .int v1)] dX12_onStep_1 rfl (by decide) rfl ?_
  refine j_iconst E (v := 0) dX12_onStep_2 (by decide) ?_
  refine j_istore_n E 3 [(3, .int (0 : Int32)), (2, .int (0 : Int32)), (0, .ref v0), (1, .int v1)] dX12_onStep_3 rfl (by decide) rfl ?_
  obtain ⟨n14, h⟩ := h
  refine j_sub [2, 3, 1, 0] rfl ?_
  exact m_X12_onStep_L4 E hZ  n14 v0 v1 (0 : Int32) (0 : Int32) I L kv0 h
set_option maxRecDepth 100000 in
def f_X12_runFeast_L353 (K138 : Nat → Int32 → Int32 → Int32 → jZ → jI → jL → Prop) (Q : Int32 → jZ → jI → jL → Prop) : Nat → Nat → Int32 → Int32 → Int32 → Int32 → jZ → jI → jL → Prop
  | 0 => fun _ _ _ _ _ _ _ _ => False
  | n + 1 => fun v0 v1 v2 v3 v4 Z I L => ((((I v0 0) - (1 : Int32)) ≤ v4 → (∀ x2 : Int32, x2 = v3 + 1 → K138 v0 v1 v2 x2 Z I L)) ∧ (¬ (((I v0 0) - (1 : Int32)) ≤ v4) → (f_X12_onStep v0 v4 Z I L (fun r8 I5 L6 => (∀ I9 : jI, I9 = jpI I5 v0 60 (if (I v0 60) < r8 then r8 else (I v0 60)) → (∀ x10 : Int32, x10 = v4 + 1 → (f_X12_runFeast_L353 K138 Q n) v0 v1 v2 v3 x10 Z I9 L6))))))
set_option maxHeartbeats 4000000 in
set_option maxRecDepth 100000 in
theorem m_X12_runFeast_L353 {G : jG} {Z0 : jZ} {Q : Int32 → jZ → jI → jL → Prop} (E : jE G cX12_runFeast RX12 w_X12_runFeast 7 (some .int) { frames := 5, cells := 0, slots := 0, locals := 124 } (xrtI Z0 Q)) (K138 : Nat → Int32 → Int32 → Int32 → jZ → jI → jL → Prop) (hK138 : ∀ (v0 : Nat) (v1 : Int32) (v2 : Int32) (v3 : Int32) (Z : jZ) (I : jI) (L : jL), SH Z → jext Z0 Z → jk Z v0 12 → K138 v0 v1 v2 v3 Z I L → jJ G 7 138 [(0, .ref v0), (1, .int v1), (2, .int v2), (3, .int v3)] [] Z I L 0 0) : ∀ (n : Nat) (v0 : Nat) (v1 : Int32) (v2 : Int32) (v3 : Int32) (v4 : Int32) (Z : jZ) (I : jI) (L : jL), SH Z → jext Z0 Z → jk Z v0 12 → f_X12_runFeast_L353 K138 Q n v0 v1 v2 v3 v4 Z I L → jJ G 7 353 [(0, .ref v0), (1, .int v1), (2, .int v2), (3, .int v3), (4, .int v4)] [] Z I L 0 0 := by
  intro n
  induction n with
  | zero => intro v0 v1 v2 v3 v4 Z I L _ _ _ h; exact h.elim
  | succ n ih =>
    intro v0 v1 v2 v3 v4 Z I L hZ hx kv0 h
    have h : ((((I v0 0) - (1 : Int32)) ≤ v4 → (∀ x2 : Int32, x2 = v3 + 1 → K138 v0 v1 v2 x2 Z I L)) ∧ (¬ (((I v0 0) - (1 : Int32)) ≤ v4) → (f_X12_onStep v0 v4 Z I L (fun r8 I5 L6 => (∀ I9 : jI, I9 = jpI I5 v0 60 (if (I v0 60) < r8 then r8 else (I v0 60)) → (∀ x10 : Int32, x10 = v4 + 1 → (f_X12_runFeast_L353 K138 Q n) v0 v1 v2 v3 x10 Z I9 L6)))))) := h
    obtain ⟨K353, eK353⟩ : ∃ K : Nat → Int32 → Int32 → Int32 → Int32 → jZ → jI → jL → Prop, K = f_X12_runFeast_L353 K138 Q n := ⟨_, rfl⟩
    have hK353 := ih
    clear eK353 K353
    generalize f_X12_runFeast_L353 K138 Q n = K353 at hK353 h
    refine j_iload E dX12_runFeast_353 4 rfl ?_
    refine j_aload_n E dX12_runFeast_355 0 rfl ?_
    refine j_geti E 12 0 rfl rfl (by decide) (by decide) (iw iT_12) rfl rfl (tw W_677) kv0 dX12_runFeast_356 ?_
    refine j_iconst E (v := 1) dX12_runFeast_359 (by decide) ?_
    refine j_isub E dX12_runFeast_360 ?_
    refine j_icmp_ge E 387 dX12_runFeast_361 (by decide) (fun c1 => ?_) (fun c1 => ?_)
    · have h := h.1 c1
      obtain ⟨x2, ex2⟩ : ∃ y : Int32, y = v3 + 1 := ⟨_, rfl⟩
      have h := h x2 ex2
      refine j_iinc E x2 [(3, .int x2), (0, .ref v0), (1, .int v1), (2, .int v2), (4, .int v4)] dX12_runFeast_387 3 rfl (by rw [ex2]; rfl) (by decide) rfl ?_
      refine j_goto E 138 dX12_runFeast_390 (by decide) ?_
      refine j_sub [1, 2, 3, 0] rfl ?_
      exact hK138 v0 v1 v2 x2 Z I L hZ hx kv0 h
    · have h := h.2 c1
      refine j_aload_n E dX12_runFeast_364 0 rfl ?_
      refine j_aload_n E dX12_runFeast_365 0 rfl ?_
      refine j_geti E 12 60 rfl rfl (by decide) (by decide) (iw iT_12) rfl rfl (tw W_887) kv0 dX12_runFeast_366 ?_
      refine j_aload_n E dX12_runFeast_369 0 rfl ?_
      refine j_iload E dX12_runFeast_370 4 rfl ?_
      refine j_callV E [.int v4] [.int (I v0 60), .ref v0] (c_X12_onStep (gL G) (gD G) (gY G) v0 v4 Z I L _ hZ kv0 h) (gwV W_889 W_890 W_891 W_679 W_888) rfl ⟨rfl, fy_X12_onStep⟩ ⟨by decide, by decide⟩ (c := 12) rfl (by decide) kv0 rfl rfl (Nat.le_of_ble_eq_true rfl) ⟨Nat.zero_le _, Nat.zero_le _⟩ dX12_runFeast_372 (fun v3 Z4 I5 L6 q7 => ?_)
      obtain ⟨rfl, r8, rfl, h⟩ := q7
      show jJ G 7 375 [(0, .ref v0), (1, .int v1), (2, .int v2), (3, .int v3), (4, .int v4)] [.int r8, .int (I v0 60), .ref v0] Z I5 L6 0 0
      refine j_max E (tw W_756) (tw W_138) (tw W_119) (tw W_139) (by decide) (Nat.le_of_ble_eq_true rfl) (Nat.zero_le _) (Nat.zero_le _) dX12_runFeast_375 ?_
      refine j_puti E 12 60 rfl rfl (by decide) (by decide) (iw iT_12) tyX12_ok nmX12 rfl rfl (tw W_887) rfl rfl rfl kv0 dX12_runFeast_378 ?_
      refine j_nmI (fun I9 eI9 => ?_)
      have h := h I9 eI9
      obtain ⟨x10, ex10⟩ : ∃ y : Int32, y = v4 + 1 := ⟨_, rfl⟩
      have h := h x10 ex10
      refine j_iinc E x10 [(4, .int x10), (0, .ref v0), (1, .int v1), (2, .int v2), (3, .int v3)] dX12_runFeast_381 4 rfl (by rw [ex10]; rfl) (by decide) rfl ?_
      refine j_goto E 353 dX12_runFeast_384 (by decide) ?_
      refine j_sub [1, 2, 3, 4, 0] rfl ?_
      exact hK353 v0 v1 v2 v3 x10 Z I9 L6 hZ hx kv0 h
set_option maxRecDepth 100000 in
def f_X12_runFeast_b338 (K138 : Nat → Int32 → Int32 → Int32 → jZ → jI → jL → Prop) (K203 : Nat → Int32 → Int32 → Int32 → Int32 → jZ → jI → jL → Prop) (K212 : Nat → Int32 → Int32 → Int32 → Int32 → Int32 → jZ → jI → jL → Prop) (Q : Int32 → jZ → jI → jL → Prop) (v0 : Nat) (v1 : Int32) (v2 : Int32) (v3 : Int32) (v4 : Int32) (v5 : Int32) (Z : jZ) (I : jI) (L : jL) : Prop := (∀ x11 : Int32, x11 = v5 + 1 → K212 v0 v1 v2 v3 v4 x11 Z I L)
set_option maxHeartbeats 4000000 in
set_option maxRecDepth 100000 in
theorem m_X12_runFeast_b338 {G : jG} {Z0 : jZ} {Q : Int32 → jZ → jI → jL → Prop} (E : jE G cX12_runFeast RX12 w_X12_runFeast 7 (some .int) { frames := 5, cells := 0, slots := 0, locals := 124 } (xrtI Z0 Q)) (K138 : Nat → Int32 → Int32 → Int32 → jZ → jI → jL → Prop) (hK138 : ∀ (v0 : Nat) (v1 : Int32) (v2 : Int32) (v3 : Int32) (Z : jZ) (I : jI) (L : jL), SH Z → jext Z0 Z → jk Z v0 12 → K138 v0 v1 v2 v3 Z I L → jJ G 7 138 [(0, .ref v0), (1, .int v1), (2, .int v2), (3, .int v3)] [] Z I L 0 0) (K203 : Nat → Int32 → Int32 → Int32 → Int32 → jZ → jI → jL → Prop) (hK203 : ∀ (v0 : Nat) (v1 : Int32) (v2 : Int32) (v3 : Int32) (v4 : Int32) (Z : jZ) (I : jI) (L : jL), SH Z → jext Z0 Z → jk Z v0 12 → K203 v0 v1 v2 v3 v4 Z I L → jJ G 7 203 [(0, .ref v0), (1, .int v1), (2, .int v2), (3, .int v3), (4, .int v4)] [] Z I L 0 0) (K212 : Nat → Int32 → Int32 → Int32 → Int32 → Int32 → jZ → jI → jL → Prop) (hK212 : ∀ (v0 : Nat) (v1 : Int32) (v2 : Int32) (v3 : Int32) (v4 : Int32) (v5 : Int32) (Z : jZ) (I : jI) (L : jL), SH Z → jext Z0 Z → jk Z v0 12 → K212 v0 v1 v2 v3 v4 v5 Z I L → jJ G 7 212 [(0, .ref v0), (1, .int v1), (2, .int v2), (3, .int v3), (4, .int v4), (5, .int v5)] [] Z I L 0 0) (v0 : Nat) (v1 : Int32) (v2 : Int32) (v3 : Int32) (v4 : Int32) (v5 : Int32) (Z : jZ) (I : jI) (L : jL) (hZ : SH Z) (hx : jext Z0 Z) (kv0 : jk Z v0 12) (h : f_X12_runFeast_b338 K138 K203 K212 Q v0 v1 v2 v3 v4 v5 Z I L) : jJ G 7 338 [(0, .ref v0), (1, .int v1), (2, .int v2), (3, .int v3), (4, .int v4), (5, .int v5)] [] Z I L 0 0 := by
  obtain ⟨x11, ex11⟩ : ∃ y : Int32, y = v5 + 1 := ⟨_, rfl⟩
  have h := h x11 ex11
  refine j_iinc E x11 [(5, .int x11), (0, .ref v0), (1, .int v1), (2, .int v2), (3, .int v3), (4, .int v4)] dX12_runFeast_338 5 rfl (by rw [ex11]; rfl) (by decide) rfl ?_
  refine j_goto E 212 dX12_runFeast_341 (by decide) ?_
  refine j_sub [1, 2, 3, 4, 5, 0] rfl ?_
  exact hK212 v0 v1 v2 v3 v4 x11 Z I L hZ hx kv0 h
set_option maxRecDepth 100000 in
def f_X12_runFeast_b336 (K138 : Nat → Int32 → Int32 → Int32 → jZ → jI → jL → Prop) (K203 : Nat → Int32 → Int32 → Int32 → Int32 → jZ → jI → jL → Prop) (K212 : Nat → Int32 → Int32 → Int32 → Int32 → Int32 → jZ → jI → jL → Prop) (Q : Int32 → jZ → jI → jL → Prop) (v0 : Nat) (v1 : Int32) (v3 : Int32) (v4 : Int32) (v5 : Int32) (s0 : Int32) (s1 : Int32) (Z : jZ) (I : jI) (L : jL) : Prop := (∀ x12 : Int32, x12 = (s0 - s1) → f_X12_runFeast_b338 K138 K203 K212 Q v0 v1 x12 v3 v4 v5 Z I L)
set_option maxHeartbeats 4000000 in
set_option maxRecDepth 100000 in
theorem m_X12_runFeast_b336 {G : jG} {Z0 : jZ} {Q : Int32 → jZ → jI → jL → Prop} (E : jE G cX12_runFeast RX12 w_X12_runFeast 7 (some .int) { frames := 5, cells := 0, slots := 0, locals := 124 } (xrtI Z0 Q)) (K138 : Nat → Int32 → Int32 → Int32 → jZ → jI → jL → Prop) (hK138 : ∀ (v0 : Nat) (v1 : Int32) (v2 : Int32) (v3 : Int32) (Z : jZ) (I : jI) (L : jL), SH Z → jext Z0 Z → jk Z v0 12 → K138 v0 v1 v2 v3 Z I L → jJ G 7 138 [(0, .ref v0), (1, .int v1), (2, .int v2), (3, .int v3)] [] Z I L 0 0) (K203 : Nat → Int32 → Int32 → Int32 → Int32 → jZ → jI → jL → Prop) (hK203 : ∀ (v0 : Nat) (v1 : Int32) (v2 : Int32) (v3 : Int32) (v4 : Int32) (Z : jZ) (I : jI) (L : jL), SH Z → jext Z0 Z → jk Z v0 12 → K203 v0 v1 v2 v3 v4 Z I L → jJ G 7 203 [(0, .ref v0), (1, .int v1), (2, .int v2), (3, .int v3), (4, .int v4)] [] Z I L 0 0) (K212 : Nat → Int32 → Int32 → Int32 → Int32 → Int32 → jZ → jI → jL → Prop) (hK212 : ∀ (v0 : Nat) (v1 : Int32) (v2 : Int32) (v3 : Int32) (v4 : Int32) (v5 : Int32) (Z : jZ) (I : jI) (L : jL), SH Z → jext Z0 Z → jk Z v0 12 → K212 v0 v1 v2 v3 v4 v5 Z I L → jJ G 7 212 [(0, .ref v0), (1, .int v1), (2, .int v2), (3, .int v3), (4, .int v4), (5, .int v5)] [] Z I L 0 0) (v0 : Nat) (v1 : Int32) (v3 : Int32) (v4 : Int32) (v5 : Int32) (s0 : Int32) (s1 : Int32) (Z : jZ) (I : jI) (L : jL) (hZ : SH Z) (hx : jext Z0 Z) (kv0 : jk Z v0 12) (h : f_X12_runFeast_b336 K138 K203 K212 Q v0 v1 v3 v4 v5 s0 s1 Z I L) : jJ G 7 336 [(0, .ref v0), (1, .int v1), (3, .int v3), (4, .int v4), (5, .int v5)] [.int s1, .int s0] Z I L 0 0 := by
  refine j_isub E dX12_runFeast_336 ?_
  refine j_topi (fun x12 ex12 => ?_)
  have h := h x12 ex12
  refine j_istore_n E 2 [(2, .int x12), (0, .ref v0), (1, .int v1), (3, .int v3), (4, .int v4), (5, .int v5)] dX12_runFeast_337 rfl (by decide) rfl ?_
  refine j_sub [1, 2, 0, 3, 4, 5] rfl ?_
  exact m_X12_runFeast_b338 E K138 hK138 K203 hK203 K212 hK212 v0 v1 x12 v3 v4 v5 Z I L hZ hx kv0 h
set_option maxRecDepth 100000 in
def f_X12_runFeast_b302 (K138 : Nat → Int32 → Int32 → Int32 → jZ → jI → jL → Prop) (K203 : Nat → Int32 → Int32 → Int32 → Int32 → jZ → jI → jL → Prop) (K212 : Nat → Int32 → Int32 → Int32 → Int32 → Int32 → jZ → jI → jL → Prop) (Q : Int32 → jZ → jI → jL → Prop) (v0 : Nat) (v1 : Int32) (v2 : Int32) (v3 : Int32) (v4 : Int32) (v5 : Int32) (Z : jZ) (I : jI) (L : jL) : Prop := (∀ b13 : Nat, jr Z v0 57 = some b13 → (vp_in v5 6 ∧ (vp_in v5 6 ∧ (∀ I16 : jI, I16 = jpI I b13 v5.toNatClampNeg ((I b13 v5.toNatClampNeg) + (1 : Int32)) → (∀ b17 : Nat, jr Z v0 57 = some b17 → (vp_in v5 6 ∧ (∀ b19 : Nat, jr Z v0 56 = some b19 → (vp_in v5 6 ∧ ((¬ (I16 b17 v5.toNatClampNeg) = (I16 b19 v5.toNatClampNeg) → f_X12_runFeast_b336 K138 K203 K212 Q v0 v1 v3 v4 v5 v2 (0 : Int32) Z I16 L) ∧ ((I16 b17 v5.toNatClampNeg) = (I16 b19 v5.toNatClampNeg) → f_X12_runFeast_b336 K138 K203 K212 Q v0 v1 v3 v4 v5 v2 (1 : Int32) Z I16 L))))))))))
set_option maxHeartbeats 4000000 in
set_option maxRecDepth 100000 in
theorem m_X12_runFeast_b302 {G : jG} {Z0 : jZ} {Q : Int32 → jZ → jI → jL → Prop} (E : jE G cX12_runFeast RX12 w_X12_runFeast 7 (some .int) { frames := 5, cells := 0, slots := 0, locals := 124 } (xrtI Z0 Q)) (K138 : Nat → Int32 → Int32 → Int32 → jZ → jI → jL → Prop) (hK138 : ∀ (v0 : Nat) (v1 : Int32) (v2 : Int32) (v3 : Int32) (Z : jZ) (I : jI) (L : jL), SH Z → jext Z0 Z → jk Z v0 12 → K138 v0 v1 v2 v3 Z I L → jJ G 7 138 [(0, .ref v0), (1, .int v1), (2, .int v2), (3, .int v3)] [] Z I L 0 0) (K203 : Nat → Int32 → Int32 → Int32 → Int32 → jZ → jI → jL → Prop) (hK203 : ∀ (v0 : Nat) (v1 : Int32) (v2 : Int32) (v3 : Int32) (v4 : Int32) (Z : jZ) (I : jI) (L : jL), SH Z → jext Z0 Z → jk Z v0 12 → K203 v0 v1 v2 v3 v4 Z I L → jJ G 7 203 [(0, .ref v0), (1, .int v1), (2, .int v2), (3, .int v3), (4, .int v4)] [] Z I L 0 0) (K212 : Nat → Int32 → Int32 → Int32 → Int32 → Int32 → jZ → jI → jL → Prop) (hK212 : ∀ (v0 : Nat) (v1 : Int32) (v2 : Int32) (v3 : Int32) (v4 : Int32) (v5 : Int32) (Z : jZ) (I : jI) (L : jL), SH Z → jext Z0 Z → jk Z v0 12 → K212 v0 v1 v2 v3 v4 v5 Z I L → jJ G 7 212 [(0, .ref v0), (1, .int v1), (2, .int v2), (3, .int v3), (4, .int v4), (5, .int v5)] [] Z I L 0 0) (v0 : Nat) (v1 : Int32) (v2 : Int32) (v3 : Int32) (v4 : Int32) (v5 : Int32) (Z : jZ) (I : jI) (L : jL) (hZ : SH Z) (hx : jext Z0 Z) (kv0 : jk Z v0 12) (h : f_X12_runFeast_b302 K138 K203 K212 Q v0 v1 v2 v3 v4 v5 Z I L) : jJ G 7 302 [(0, .ref v0), (1, .int v1), (2, .int v2), (3, .int v3), (4, .int v4), (5, .int v5)] [] Z I L 0 0 := by
  refine j_aload_n E dX12_runFeast_302 0 rfl ?_
  obtain ⟨b13, eb13, kb13, lb13⟩ := sh_f hZ kv0 (j := 57) (k := 14) (m := 6) rfl
  have h := h b13 eb13
  refine j_getr E 12 57 rfl rfl (by decide) (by decide) (iw iT_12) rfl rfl (tw W_880) kv0 eb13 dX12_runFeast_303 ?_
  refine j_iload E dX12_runFeast_306 5 rfl ?_
  refine j_dup2_11 E dX12_runFeast_308 rfl rfl ?_
  obtain ⟨o14, h⟩ := h
  refine j_iald E kb13 (by rw [lb13]; exact o14) dX12_runFeast_309 ?_
  refine j_iconst E (v := 1) dX12_runFeast_310 (by decide) ?_
  refine j_iadd E dX12_runFeast_311 ?_
  obtain ⟨o15, h⟩ := h
  refine j_iast E kb13 (by rw [lb13]; exact o15) dX12_runFeast_312 ?_
  refine j_nmI (fun I16 eI16 => ?_)
  have h := h I16 eI16
  refine j_iload_n E dX12_runFeast_313 2 rfl ?_
  refine j_aload_n E dX12_runFeast_314 0 rfl ?_
  obtain ⟨b17, eb17, kb17, lb17⟩ := sh_f hZ kv0 (j := 57) (k := 14) (m := 6) rfl
  have h := h b17 eb17
  refine j_getr E 12 57 rfl rfl (by decide) (by decide) (iw iT_12) rfl rfl (tw W_880) kv0 eb17 dX12_runFeast_315 ?_
  refine j_iload E dX12_runFeast_318 5 rfl ?_
  obtain ⟨o18, h⟩ := h
  refine j_iald E kb17 (by rw [lb17]; exact o18) dX12_runFeast_320 ?_
  refine j_aload_n E dX12_runFeast_321 0 rfl ?_
  obtain ⟨b19, eb19, kb19, lb19⟩ := sh_f hZ kv0 (j := 56) (k := 14) (m := 6) rfl
  have h := h b19 eb19
  refine j_getr E 12 56 rfl rfl (by decide) (by decide) (iw iT_12) rfl rfl (tw W_882) kv0 eb19 dX12_runFeast_322 ?_
  refine j_iload E dX12_runFeast_325 5 rfl ?_
  obtain ⟨o20, h⟩ := h
  refine j_iald E kb19 (by rw [lb19]; exact o20) dX12_runFeast_327 ?_
  refine j_icmp_ne E 335 dX12_runFeast_328 (by decide) (fun c21 => ?_) (fun c21 => ?_)
  · have h := h.1 c21
    refine j_iconst E (v := 0) dX12_runFeast_335 (by decide) ?_
    refine j_sub [0, 1, 3, 4, 5] rfl ?_
    exact m_X12_runFeast_b336 E K138 hK138 K203 hK203 K212 hK212 v0 v1 v3 v4 v5 v2 (0 : Int32) Z I16 L hZ hx kv0 h
  · have h := h.2 c21
    refine j_iconst E (v := 1) dX12_runFeast_331 (by decide) ?_
    refine j_goto E 336 dX12_runFeast_332 (by decide) ?_
    refine j_sub [0, 1, 3, 4, 5] rfl ?_
    exact m_X12_runFeast_b336 E K138 hK138 K203 hK203 K212 hK212 v0 v1 v3 v4 v5 v2 (1 : Int32) Z I16 L hZ hx kv0 h
set_option maxRecDepth 100000 in
def f_X12_runFeast_L212 (K138 : Nat → Int32 → Int32 → Int32 → jZ → jI → jL → Prop) (K203 : Nat → Int32 → Int32 → Int32 → Int32 → jZ → jI → jL → Prop) (Q : Int32 → jZ → jI → jL → Prop) : Nat → Nat → Int32 → Int32 → Int32 → Int32 → Int32 → jZ → jI → jL → Prop
  | 0 => fun _ _ _ _ _ _ _ _ _ => False
  | n + 1 => fun v0 v1 v2 v3 v4 v5 Z I L => (((I v0 8) ≤ v5 → (∀ x23 : Int32, x23 = v4 + (-1) → K203 v0 v1 v2 v3 x23 Z I L)) ∧ (¬ ((I v0 8) ≤ v5) → (∀ b24 : Nat, jr Z v0 61 = some b24 → (vp_in v5 6 ∧ (((I b24 v5.toNatClampNeg) = v4 → (∀ b27 : Nat, jr Z v0 55 = some b27 → (∀ b28 : Nat, jr Z v0 57 = some b28 → (vp_in v5 6 ∧ (vp_in (((24 : Int32) * v5) + (I b28 v5.toNatClampNeg)) 144 ∧ (∀ x31 : Int32, x31 = (I b27 (((24 : Int32) * v5) + (I b28 v5.toNatClampNeg)).toNatClampNeg) → ((((I v0 0) - (1 : Int32)) ≤ x31 → f_X12_runFeast_b302 K138 K203 (f_X12_runFeast_L212 K138 K203 Q n) Q v0 v1 v2 v3 v4 v5 Z I L) ∧ (¬ (((I v0 0) - (1 : Int32)) ≤ x31) → (f_X12_onStep v0 x31 Z I L (fun r38 I35 L36 => ((r38 < v1 → f_X12_runFeast_b302 K138 K203 (f_X12_runFeast_L212 K138 K203 Q n) Q v0 v1 v2 v3 v4 v5 Z I35 L36) ∧ (¬ (r38 < v1) → (∀ b40 : Nat, jr Z v0 58 = some b40 → (vp_in v5 6 ∧ (vp_in v5 6 ∧ (∀ I43 : jI, I43 = jpI I35 b40 v5.toNatClampNeg ((I35 b40 v5.toNatClampNeg) + (1 : Int32)) → (∀ b44 : Nat, jr Z v0 59 = some b44 → (vp_in x31 24 ∧ (vp_in x31 24 ∧ (∀ I47 : jI, I47 = jpI I43 b44 x31.toNatClampNeg ((I43 b44 x31.toNatClampNeg) + (1 : Int32)) → f_X12_runFeast_b338 K138 K203 (f_X12_runFeast_L212 K138 K203 Q n) Q v0 v1 v2 v3 v4 v5 Z I47 L36)))))))))))))))))))) ∧ (¬ ((I b24 v5.toNatClampNeg) = v4) → f_X12_runFeast_b338 K138 K203 (f_X12_runFeast_L212 K138 K203 Q n) Q v0 v1 v2 v3 v4 v5 Z I L))))))
set_option maxHeartbeats 4000000 in
set_option maxRecDepth 100000 in
theorem m_X12_runFeast_L212 {G : jG} {Z0 : jZ} {Q : Int32 → jZ → jI → jL → Prop} (E : jE G cX12_runFeast RX12 w_X12_runFeast 7 (some .int) { frames := 5, cells := 0, slots := 0, locals := 124 } (xrtI Z0 Q)) (K138 : Nat → Int32 → Int32 → Int32 → jZ → jI → jL → Prop) (hK138 : ∀ (v0 : Nat) (v1 : Int32) (v2 : Int32) (v3 : Int32) (Z : jZ) (I : jI) (L : jL), SH Z → jext Z0 Z → jk Z v0 12 → K138 v0 v1 v2 v3 Z I L → jJ G 7 138 [(0, .ref v0), (1, .int v1), (2, .int v2), (3, .int v3)] [] Z I L 0 0) (K203 : Nat → Int32 → Int32 → Int32 → Int32 → jZ → jI → jL → Prop) (hK203 : ∀ (v0 : Nat) (v1 : Int32) (v2 : Int32) (v3 : Int32) (v4 : Int32) (Z : jZ) (I : jI) (L : jL), SH Z → jext Z0 Z → jk Z v0 12 → K203 v0 v1 v2 v3 v4 Z I L → jJ G 7 203 [(0, .ref v0), (1, .int v1), (2, .int v2), (3, .int v3), (4, .int v4)] [] Z I L 0 0) : ∀ (n : Nat) (v0 : Nat) (v1 : Int32) (v2 : Int32) (v3 : Int32) (v4 : Int32) (v5 : Int32) (Z : jZ) (I : jI) (L : jL), SH Z → jext Z0 Z → jk Z v0 12 → f_X12_runFeast_L212 K138 K203 Q n v0 v1 v2 v3 v4 v5 Z I L → jJ G 7 212 [(0, .ref v0), (1, .int v1), (2, .int v2), (3, .int v3), (4, .int v4), (5, .int v5)] [] Z I L 0 0 := by
  intro n
  induction n with
  | zero => intro v0 v1 v2 v3 v4 v5 Z I L _ _ _ h; exact h.elim
  | succ n ih =>
    intro v0 v1 v2 v3 v4 v5 Z I L hZ hx kv0 h
    have h : (((I v0 8) ≤ v5 → (∀ x23 : Int32, x23 = v4 + (-1) → K203 v0 v1 v2 v3 x23 Z I L)) ∧ (¬ ((I v0 8) ≤ v5) → (∀ b24 : Nat, jr Z v0 61 = some b24 → (vp_in v5 6 ∧ (((I b24 v5.toNatClampNeg) = v4 → (∀ b27 : Nat, jr Z v0 55 = some b27 → (∀ b28 : Nat, jr Z v0 57 = some b28 → (vp_in v5 6 ∧ (vp_in (((24 : Int32) * v5) + (I b28 v5.toNatClampNeg)) 144 ∧ (∀ x31 : Int32, x31 = (I b27 (((24 : Int32) * v5) + (I b28 v5.toNatClampNeg)).toNatClampNeg) → ((((I v0 0) - (1 : Int32)) ≤ x31 → f_X12_runFeast_b302 K138 K203 (f_X12_runFeast_L212 K138 K203 Q n) Q v0 v1 v2 v3 v4 v5 Z I L) ∧ (¬ (((I v0 0) - (1 : Int32)) ≤ x31) → (f_X12_onStep v0 x31 Z I L (fun r38 I35 L36 => ((r38 < v1 → f_X12_runFeast_b302 K138 K203 (f_X12_runFeast_L212 K138 K203 Q n) Q v0 v1 v2 v3 v4 v5 Z I35 L36) ∧ (¬ (r38 < v1) → (∀ b40 : Nat, jr Z v0 58 = some b40 → (vp_in v5 6 ∧ (vp_in v5 6 ∧ (∀ I43 : jI, I43 = jpI I35 b40 v5.toNatClampNeg ((I35 b40 v5.toNatClampNeg) + (1 : Int32)) → (∀ b44 : Nat, jr Z v0 59 = some b44 → (vp_in x31 24 ∧ (vp_in x31 24 ∧ (∀ I47 : jI, I47 = jpI I43 b44 x31.toNatClampNeg ((I43 b44 x31.toNatClampNeg) + (1 : Int32)) → f_X12_runFeast_b338 K138 K203 (f_X12_runFeast_L212 K138 K203 Q n) Q v0 v1 v2 v3 v4 v5 Z I47 L36)))))))))))))))))))) ∧ (¬ ((I b24 v5.toNatClampNeg) = v4) → f_X12_runFeast_b338 K138 K203 (f_X12_runFeast_L212 K138 K203 Q n) Q v0 v1 v2 v3 v4 v5 Z I L)))))) := h
    obtain ⟨K212, eK212⟩ : ∃ K : Nat → Int32 → Int32 → Int32 → Int32 → Int32 → jZ → jI → jL → Prop, K = f_X12_runFeast_L212 K138 K203 Q n := ⟨_, rfl⟩
    have hK212 := ih
    clear eK212 K212
    generalize f_X12_runFeast_L212 K138 K203 Q n = K212 at hK212 h
    refine j_iload E dX12_runFeast_212 5 rfl ?_
    refine j_aload_n E dX12_runFeast_214 0 rfl ?_
    refine j_geti E 12 8 rfl rfl (by decide) (by decide) (iw iT_12) rfl rfl (tw W_682) kv0 dX12_runFeast_215 ?_
    refine j_icmp_ge E 344 dX12_runFeast_218 (by decide) (fun c22 => ?_) (fun c22 => ?_)
    · have h := h.1 c22
      obtain ⟨x23, ex23⟩ : ∃ y : Int32, y = v4 + (-1) := ⟨_, rfl⟩
      have h := h x23 ex23
      refine j_iinc E x23 [(4, .int x23), (0, .ref v0), (1, .int v1), (2, .int v2), (3, .int v3), (5, .int v5)] dX12_runFeast_344 4 rfl (by rw [ex23]; rfl) (by decide) rfl ?_
      refine j_goto E 203 dX12_runFeast_347 (by decide) ?_
      refine j_sub [1, 2, 3, 4, 0] rfl ?_
      exact hK203 v0 v1 v2 v3 x23 Z I L hZ hx kv0 h
    · have h := h.2 c22
      refine j_aload_n E dX12_runFeast_221 0 rfl ?_
      obtain ⟨b24, eb24, kb24, lb24⟩ := sh_f hZ kv0 (j := 61) (k := 14) (m := 6) rfl
      have h := h b24 eb24
      refine j_getr E 12 61 rfl rfl (by decide) (by decide) (iw iT_12) rfl rfl (tw W_892) kv0 eb24 dX12_runFeast_222 ?_
      refine j_iload E dX12_runFeast_225 5 rfl ?_
      obtain ⟨o25, h⟩ := h
      refine j_iald E kb24 (by rw [lb24]; exact o25) dX12_runFeast_227 ?_
      refine j_iload E dX12_runFeast_228 4 rfl ?_
      refine j_icmp_eq E 236 dX12_runFeast_230 (by decide) (fun c26 => ?_) (fun c26 => ?_)
      · have h := h.1 c26
        refine j_aload_n E dX12_runFeast_236 0 rfl ?_
        obtain ⟨b27, eb27, kb27, lb27⟩ := sh_f hZ kv0 (j := 55) (k := 14) (m := 144) rfl
        have h := h b27 eb27
        refine j_getr E 12 55 rfl rfl (by decide) (by decide) (iw iT_12) rfl rfl (tw W_881) kv0 eb27 dX12_runFeast_237 ?_
        refine j_bipush E (v := 24) dX12_runFeast_240 (by decide) ?_
        refine j_iload E dX12_runFeast_242 5 rfl ?_
        refine j_imul E dX12_runFeast_244 ?_
        refine j_aload_n E dX12_runFeast_245 0 rfl ?_
        obtain ⟨b28, eb28, kb28, lb28⟩ := sh_f hZ kv0 (j := 57) (k := 14) (m := 6) rfl
        have h := h b28 eb28
        refine j_getr E 12 57 rfl rfl (by decide) (by decide) (iw iT_12) rfl rfl (tw W_880) kv0 eb28 dX12_runFeast_246 ?_
        refine j_iload E dX12_runFeast_249 5 rfl ?_
        obtain ⟨o29, h⟩ := h
        refine j_iald E kb28 (by rw [lb28]; exact o29) dX12_runFeast_251 ?_
        refine j_iadd E dX12_runFeast_252 ?_
        obtain ⟨o30, h⟩ := h
        refine j_iald E kb27 (by rw [lb27]; exact o30) dX12_runFeast_253 ?_
        refine j_topi (fun x31 ex31 => ?_)
        have h := h x31 ex31
        refine j_istore E 6 [(6, .int x31), (0, .ref v0), (1, .int v1), (2, .int v2), (3, .int v3), (4, .int v4), (5, .int v5)] dX12_runFeast_254 (by decide) rfl ?_
        refine j_iload E dX12_runFeast_256 0 rfl ?_
        refine j_aload_n E dX12_runFeast_258 1 rfl ?_
        refine j_geti E 12 0 rfl rfl (by decide) (by decide) (iw iT_12) rfl rfl (tw W_677) kv0 dX12_runFeast_259 ?_
        refine j_iconst E (v := 1) dX12_runFeast_262 (by decide) ?_
        refine j_isub E dX12_runFeast_263 ?_
        refine j_icmp_ge E 302 dX12_runFeast_264 (by decide) (fun c32 => ?_) (fun c32 => ?_)
        · have h := h.1 c32
          refine j_sub [1, 2, 3, 4, 5, 6] rfl ?_
          exact m_X12_runFeast_b302 E K138 hK138 K203 hK203 K212 hK212 v0 v1 v2 v3 v4 v5 Z I L hZ hx kv0 h
        · have h := h.2 c32
          refine j_aload_n E dX12_runFeast_267 1 rfl ?_
          refine j_iload E dX12_runFeast_268 0 rfl ?_
          refine j_callV E [.int x31] [] (c_X12_onStep (gL G) (gD G) (gY G) v0 x31 Z I L _ hZ kv0 h) (gwV W_889 W_890 W_891 W_679 W_888) rfl ⟨rfl, fy_X12_onStep⟩ ⟨by decide, by decide⟩ (c := 12) rfl (by decide) kv0 rfl rfl (Nat.le_of_ble_eq_true rfl) ⟨Nat.zero_le _, Nat.zero_le _⟩ dX12_runFeast_270 (fun v33 Z34 I35 L36 q37 => ?_)
          obtain ⟨rfl, r38, rfl, h⟩ := q37
          show jJ G 7 273 [(6, .int x31), (0, .ref v0), (1, .int v1), (2, .int v2), (3, .int v3), (4, .int v4), (5, .int v5)] [.int r38] Z I35 L36 0 0
          refine j_iload_n E dX12_runFeast_273 2 rfl ?_
          refine j_icmp_lt E 302 dX12_runFeast_274 (by decide) (fun c39 => ?_) (fun c39 => ?_)
          · have h := h.1 c39
            refine j_sub [1, 2, 3, 4, 5, 6] rfl ?_
            exact m_X12_runFeast_b302 E K138 hK138 K203 hK203 K212 hK212 v0 v1 v2 v3 v4 v5 Z I35 L36 hZ hx kv0 h
          · have h := h.2 c39
            refine j_aload_n E dX12_runFeast_277 1 rfl ?_
            obtain ⟨b40, eb40, kb40, lb40⟩ := sh_f hZ kv0 (j := 58) (k := 14) (m := 6) rfl
            have h := h b40 eb40
            refine j_getr E 12 58 rfl rfl (by decide) (by decide) (iw iT_12) rfl rfl (tw W_893) kv0 eb40 dX12_runFeast_278 ?_
            refine j_iload E dX12_runFeast_281 6 rfl ?_
            refine j_dup2_11 E dX12_runFeast_283 rfl rfl ?_
            obtain ⟨o41, h⟩ := h
            refine j_iald E kb40 (by rw [lb40]; exact o41) dX12_runFeast_284 ?_
            refine j_iconst E (v := 1) dX12_runFeast_285 (by decide) ?_
            refine j_iadd E dX12_runFeast_286 ?_
            obtain ⟨o42, h⟩ := h
            refine j_iast E kb40 (by rw [lb40]; exact o42) dX12_runFeast_287 ?_
            refine j_nmI (fun I43 eI43 => ?_)
            have h := h I43 eI43
            refine j_aload_n E dX12_runFeast_288 1 rfl ?_
            obtain ⟨b44, eb44, kb44, lb44⟩ := sh_f hZ kv0 (j := 59) (k := 14) (m := 24) rfl
            have h := h b44 eb44
            refine j_getr E 12 59 rfl rfl (by decide) (by decide) (iw iT_12) rfl rfl (tw W_894) kv0 eb44 dX12_runFeast_289 ?_
            refine j_iload E dX12_runFeast_292 0 rfl ?_
            refine j_dup2_11 E dX12_runFeast_294 rfl rfl ?_
            obtain ⟨o45, h⟩ := h
            refine j_iald E kb44 (by rw [lb44]; exact o45) dX12_runFeast_295 ?_
            refine j_iconst E (v := 1) dX12_runFeast_296 (by decide) ?_
            refine j_iadd E dX12_runFeast_297 ?_
            obtain ⟨o46, h⟩ := h
            refine j_iast E kb44 (by rw [lb44]; exact o46) dX12_runFeast_298 ?_
            refine j_nmI (fun I47 eI47 => ?_)
            have h := h I47 eI47
            refine j_goto E 338 dX12_runFeast_299 (by decide) ?_
            refine j_sub [1, 2, 3, 4, 5, 6] rfl ?_
            exact m_X12_runFeast_b338 E K138 hK138 K203 hK203 K212 hK212 v0 v1 v2 v3 v4 v5 Z I47 L36 hZ hx kv0 h
      · have h := h.2 c26
        refine j_goto E 338 dX12_runFeast_233 (by decide) ?_
        refine j_sub [0, 1, 2, 3, 4, 5] rfl ?_
        exact m_X12_runFeast_b338 E K138 hK138 K203 hK203 K212 hK212 v0 v1 v2 v3 v4 v5 Z I L hZ hx kv0 h
set_option maxRecDepth 100000 in
def f_X12_runFeast_L203 (K138 : Nat → Int32 → Int32 → Int32 → jZ → jI → jL → Prop) (Q : Int32 → jZ → jI → jL → Prop) : Nat → Nat → Int32 → Int32 → Int32 → Int32 → jZ → jI → jL → Prop
  | 0 => fun _ _ _ _ _ _ _ _ => False
  | n + 1 => fun v0 v1 v2 v3 v4 Z I L => ((v4 < (-1 : Int32) → (∃ m353 : Nat, f_X12_runFeast_L353 K138 Q m353 v0 v1 v2 v3 (0 : Int32) Z I L)) ∧ (¬ (v4 < (-1 : Int32)) → (∃ m212 : Nat, f_X12_runFeast_L212 K138 (f_X12_runFeast_L203 K138 Q n) Q m212 v0 v1 v2 v3 v4 (0 : Int32) Z I L)))
set_option maxHeartbeats 4000000 in
set_option maxRecDepth 100000 in
theorem m_X12_runFeast_L203 {G : jG} {Z0 : jZ} {Q : Int32 → jZ → jI → jL → Prop} (E : jE G cX12_runFeast RX12 w_X12_runFeast 7 (some .int) { frames := 5, cells := 0, slots := 0, locals := 124 } (xrtI Z0 Q)) (K138 : Nat → Int32 → Int32 → Int32 → jZ → jI → jL → Prop) (hK138 : ∀ (v0 : Nat) (v1 : Int32) (v2 : Int32) (v3 : Int32) (Z : jZ) (I : jI) (L : jL), SH Z → jext Z0 Z → jk Z v0 12 → K138 v0 v1 v2 v3 Z I L → jJ G 7 138 [(0, .ref v0), (1, .int v1), (2, .int v2), (3, .int v3)] [] Z I L 0 0) : ∀ (n : Nat) (v0 : Nat) (v1 : Int32) (v2 : Int32) (v3 : Int32) (v4 : Int32) (Z : jZ) (I : jI) (L : jL), SH Z → jext Z0 Z → jk Z v0 12 → f_X12_runFeast_L203 K138 Q n v0 v1 v2 v3 v4 Z I L → jJ G 7 203 [(0, .ref v0), (1, .int v1), (2, .int v2), (3, .int v3), (4, .int v4)] [] Z I L 0 0 := by
  intro n
  induction n with
  | zero => intro v0 v1 v2 v3 v4 Z I L _ _ _ h; exact h.elim
  | succ n ih =>
    intro v0 v1 v2 v3 v4 Z I L hZ hx kv0 h
    have h : ((v4 < (-1 : Int32) → (∃ m353 : Nat, f_X12_runFeast_L353 K138 Q m353 v0 v1 v2 v3 (0 : Int32) Z I L)) ∧ (¬ (v4 < (-1 : Int32)) → (∃ m212 : Nat, f_X12_runFeast_L212 K138 (f_X12_runFeast_L203 K138 Q n) Q m212 v0 v1 v2 v3 v4 (0 : Int32) Z I L))) := h
    obtain ⟨K203, eK203⟩ : ∃ K : Nat → Int32 → Int32 → Int32 → Int32 → jZ → jI → jL → Prop, K = f_X12_runFeast_L203 K138 Q n := ⟨_, rfl⟩
    have hK203 := ih
    clear eK203 K203
    generalize f_X12_runFeast_L203 K138 Q n = K203 at hK203 h
    refine j_iload E dX12_runFeast_203 4 rfl ?_
    refine j_iconst E (v := -1) dX12_runFeast_205 (by decide) ?_
    refine j_icmp_lt E 350 dX12_runFeast_206 (by decide) (fun c48 => ?_) (fun c48 => ?_)
    · have h := h.1 c48
      refine j_iconst E (v := 0) dX12_runFeast_350 (by decide) ?_
      refine j_istore E 4 [(4, .int (0 : Int32)), (0, .ref v0), (1, .int v1), (2, .int v2), (3, .int v3)] dX12_runFeast_351 (by decide) rfl ?_
      obtain ⟨n49, h⟩ := h
      refine j_sub [1, 2, 3, 4, 0] rfl ?_
      exact m_X12_runFeast_L353 E K138 hK138 n49 v0 v1 v2 v3 (0 : Int32) Z I L hZ hx kv0 h
    · have h := h.2 c48
      refine j_iconst E (v := 0) dX12_runFeast_209 (by decide) ?_
      refine j_istore E 5 [(5, .int (0 : Int32)), (0, .ref v0), (1, .int v1), (2, .int v2), (3, .int v3), (4, .int v4)] dX12_runFeast_210 (by decide) rfl ?_
      obtain ⟨n50, h⟩ := h
      refine j_sub [1, 2, 3, 4, 5, 0] rfl ?_
      exact m_X12_runFeast_L212 E K138 hK138 K203 hK203 n50 v0 v1 v2 v3 v4 (0 : Int32) Z I L hZ hx kv0 h
set_option maxRecDepth 100000 in
def f_X12_runFeast_b188 (K138 : Nat → Int32 → Int32 → Int32 → jZ → jI → jL → Prop) (K145 : Nat → Int32 → Int32 → Int32 → Int32 → jZ → jI → jL → Prop) (Q : Int32 → jZ → jI → jL → Prop) (v0 : Nat) (v1 : Int32) (v2 : Int32) (v3 : Int32) (v4 : Int32) (s0 : Nat) (s1 : Int32) (s2 : Int32) (Z : jZ) (I : jI) (L : jL) : Prop := (vp_in s1 (jlen Z s0) ∧ (∀ I52 : jI, I52 = jpI I s0 s1.toNatClampNeg s2 → (∀ x53 : Int32, x53 = v4 + 1 → K145 v0 v1 v2 v3 x53 Z I52 L)))
set_option maxHeartbeats 4000000 in
set_option maxRecDepth 100000 in
theorem m_X12_runFeast_b188 {G : jG} {Z0 : jZ} {Q : Int32 → jZ → jI → jL → Prop} (E : jE G cX12_runFeast RX12 w_X12_runFeast 7 (some .int) { frames := 5, cells := 0, slots := 0, locals := 124 } (xrtI Z0 Q)) (K138 : Nat → Int32 → Int32 → Int32 → jZ → jI → jL → Prop) (hK138 : ∀ (v0 : Nat) (v1 : Int32) (v2 : Int32) (v3 : Int32) (Z : jZ) (I : jI) (L : jL), SH Z → jext Z0 Z → jk Z v0 12 → K138 v0 v1 v2 v3 Z I L → jJ G 7 138 [(0, .ref v0), (1, .int v1), (2, .int v2), (3, .int v3)] [] Z I L 0 0) (K145 : Nat → Int32 → Int32 → Int32 → Int32 → jZ → jI → jL → Prop) (hK145 : ∀ (v0 : Nat) (v1 : Int32) (v2 : Int32) (v3 : Int32) (v4 : Int32) (Z : jZ) (I : jI) (L : jL), SH Z → jext Z0 Z → jk Z v0 12 → K145 v0 v1 v2 v3 v4 Z I L → jJ G 7 145 [(0, .ref v0), (1, .int v1), (2, .int v2), (3, .int v3), (4, .int v4)] [] Z I L 0 0) (v0 : Nat) (v1 : Int32) (v2 : Int32) (v3 : Int32) (v4 : Int32) (s0 : Nat) (s1 : Int32) (s2 : Int32) (Z : jZ) (I : jI) (L : jL) (hZ : SH Z) (hx : jext Z0 Z) (kv0 : jk Z v0 12) (ks0 : jk Z s0 14) (h : f_X12_runFeast_b188 K138 K145 Q v0 v1 v2 v3 v4 s0 s1 s2 Z I L) : jJ G 7 188 [(0, .ref v0), (1, .int v1), (2, .int v2), (3, .int v3), (4, .int v4)] [.int s2, .int s1, .ref s0] Z I L 0 0 := by
  obtain ⟨o51, h⟩ := h
  refine j_iast E ks0 o51 dX12_runFeast_188 ?_
  refine j_nmI (fun I52 eI52 => ?_)
  have h := h I52 eI52
  obtain ⟨x53, ex53⟩ : ∃ y : Int32, y = v4 + 1 := ⟨_, rfl⟩
  have h := h x53 ex53
  refine j_iinc E x53 [(4, .int x53), (0, .ref v0), (1, .int v1), (2, .int v2), (3, .int v3)] dX12_runFeast_189 4 rfl (by rw [ex53]; rfl) (by decide) rfl ?_
  refine j_goto E 145 dX12_runFeast_192 (by decide) ?_
  refine j_sub [1, 2, 3, 4, 0] rfl ?_
  exact hK145 v0 v1 v2 v3 x53 Z I52 L hZ hx kv0 h
set_option maxRecDepth 100000 in
def f_X12_runFeast_L145 (K138 : Nat → Int32 → Int32 → Int32 → jZ → jI → jL → Prop) (Q : Int32 → jZ → jI → jL → Prop) : Nat → Nat → Int32 → Int32 → Int32 → Int32 → jZ → jI → jL → Prop
  | 0 => fun _ _ _ _ _ _ _ _ => False
  | n + 1 => fun v0 v1 v2 v3 v4 Z I L => (((I v0 8) ≤ v4 → (∀ x55 : Int32, x55 = ((I v0 0) - (1 : Int32)) → (∃ m203 : Nat, f_X12_runFeast_L203 K138 Q m203 v0 v1 v2 v3 x55 Z I L))) ∧ (¬ ((I v0 8) ≤ v4) → (∀ b57 : Nat, jr Z v0 61 = some b57 → (∀ b58 : Nat, jr Z v0 57 = some b58 → (vp_in v4 6 ∧ (∀ b60 : Nat, jr Z v0 56 = some b60 → (vp_in v4 6 ∧ (((I b60 v4.toNatClampNeg) ≤ (I b58 v4.toNatClampNeg) → f_X12_runFeast_b188 K138 (f_X12_runFeast_L145 K138 Q n) Q v0 v1 v2 v3 v4 b57 v4 (-2 : Int32) Z I L) ∧ (¬ ((I b60 v4.toNatClampNeg) ≤ (I b58 v4.toNatClampNeg)) → (f_X12_placeOf v0 v4 Z I L (fun r68 I65 L66 => f_X12_runFeast_b188 K138 (f_X12_runFeast_L145 K138 Q n) Q v0 v1 v2 v3 v4 b57 v4 r68 Z I65 L66)))))))))))
set_option maxHeartbeats 4000000 in
set_option maxRecDepth 100000 in
theorem m_X12_runFeast_L145 {G : jG} {Z0 : jZ} {Q : Int32 → jZ → jI → jL → Prop} (E : jE G cX12_runFeast RX12 w_X12_runFeast 7 (some .int) { frames := 5, cells := 0, slots := 0, locals := 124 } (xrtI Z0 Q)) (K138 : Nat → Int32 → Int32 → Int32 → jZ → jI → jL → Prop) (hK138 : ∀ (v0 : Nat) (v1 : Int32) (v2 : Int32) (v3 : Int32) (Z : jZ) (I : jI) (L : jL), SH Z → jext Z0 Z → jk Z v0 12 → K138 v0 v1 v2 v3 Z I L → jJ G 7 138 [(0, .ref v0), (1, .int v1), (2, .int v2), (3, .int v3)] [] Z I L 0 0) : ∀ (n : Nat) (v0 : Nat) (v1 : Int32) (v2 : Int32) (v3 : Int32) (v4 : Int32) (Z : jZ) (I : jI) (L : jL), SH Z → jext Z0 Z → jk Z v0 12 → f_X12_runFeast_L145 K138 Q n v0 v1 v2 v3 v4 Z I L → jJ G 7 145 [(0, .ref v0), (1, .int v1), (2, .int v2), (3, .int v3), (4, .int v4)] [] Z I L 0 0 := by
  intro n
  induction n with
  | zero => intro v0 v1 v2 v3 v4 Z I L _ _ _ h; exact h.elim
  | succ n ih =>
    intro v0 v1 v2 v3 v4 Z I L hZ hx kv0 h
    have h : (((I v0 8) ≤ v4 → (∀ x55 : Int32, x55 = ((I v0 0) - (1 : Int32)) → (∃ m203 : Nat, f_X12_runFeast_L203 K138 Q m203 v0 v1 v2 v3 x55 Z I L))) ∧ (¬ ((I v0 8) ≤ v4) → (∀ b57 : Nat, jr Z v0 61 = some b57 → (∀ b58 : Nat, jr Z v0 57 = some b58 → (vp_in v4 6 ∧ (∀ b60 : Nat, jr Z v0 56 = some b60 → (vp_in v4 6 ∧ (((I b60 v4.toNatClampNeg) ≤ (I b58 v4.toNatClampNeg) → f_X12_runFeast_b188 K138 (f_X12_runFeast_L145 K138 Q n) Q v0 v1 v2 v3 v4 b57 v4 (-2 : Int32) Z I L) ∧ (¬ ((I b60 v4.toNatClampNeg) ≤ (I b58 v4.toNatClampNeg)) → (f_X12_placeOf v0 v4 Z I L (fun r68 I65 L66 => f_X12_runFeast_b188 K138 (f_X12_runFeast_L145 K138 Q n) Q v0 v1 v2 v3 v4 b57 v4 r68 Z I65 L66))))))))))) := h
    obtain ⟨K145, eK145⟩ : ∃ K : Nat → Int32 → Int32 → Int32 → Int32 → jZ → jI → jL → Prop, K = f_X12_runFeast_L145 K138 Q n := ⟨_, rfl⟩
    have hK145 := ih
    clear eK145 K145
    generalize f_X12_runFeast_L145 K138 Q n = K145 at hK145 h
    refine j_iload E dX12_runFeast_145 4 rfl ?_
    refine j_aload_n E dX12_runFeast_147 0 rfl ?_
    refine j_geti E 12 8 rfl rfl (by decide) (by decide) (iw iT_12) rfl rfl (tw W_682) kv0 dX12_runFeast_148 ?_
    refine j_icmp_ge E 195 dX12_runFeast_151 (by decide) (fun c54 => ?_) (fun c54 => ?_)
    · have h := h.1 c54
      refine j_aload_n E dX12_runFeast_195 0 rfl ?_
      refine j_geti E 12 0 rfl rfl (by decide) (by decide) (iw iT_12) rfl rfl (tw W_677) kv0 dX12_runFeast_196 ?_
      refine j_iconst E (v := 1) dX12_runFeast_199 (by decide) ?_
      refine j_isub E dX12_runFeast_200 ?_
      refine j_topi (fun x55 ex55 => ?_)
      have h := h x55 ex55
      refine j_istore E 4 [(4, .int x55), (0, .ref v0), (1, .int v1), (2, .int v2), (3, .int v3)] dX12_runFeast_201 (by decide) rfl ?_
      obtain ⟨n56, h⟩ := h
      refine j_sub [1, 2, 3, 4, 0] rfl ?_
      exact m_X12_runFeast_L203 E K138 hK138 n56 v0 v1 v2 v3 x55 Z I L hZ hx kv0 h
    · have h := h.2 c54
      refine j_aload_n E dX12_runFeast_154 0 rfl ?_
      obtain ⟨b57, eb57, kb57, lb57⟩ := sh_f hZ kv0 (j := 61) (k := 14) (m := 6) rfl
      have h := h b57 eb57
      refine j_getr E 12 61 rfl rfl (by decide) (by decide) (iw iT_12) rfl rfl (tw W_892) kv0 eb57 dX12_runFeast_155 ?_
      refine j_iload E dX12_runFeast_158 4 rfl ?_
      refine j_aload_n E dX12_runFeast_160 0 rfl ?_
      obtain ⟨b58, eb58, kb58, lb58⟩ := sh_f hZ kv0 (j := 57) (k := 14) (m := 6) rfl
      have h := h b58 eb58
      refine j_getr E 12 57 rfl rfl (by decide) (by decide) (iw iT_12) rfl rfl (tw W_880) kv0 eb58 dX12_runFeast_161 ?_
      refine j_iload E dX12_runFeast_164 4 rfl ?_
      obtain ⟨o59, h⟩ := h
      refine j_iald E kb58 (by rw [lb58]; exact o59) dX12_runFeast_166 ?_
      refine j_aload_n E dX12_runFeast_167 0 rfl ?_
      obtain ⟨b60, eb60, kb60, lb60⟩ := sh_f hZ kv0 (j := 56) (k := 14) (m := 6) rfl
      have h := h b60 eb60
      refine j_getr E 12 56 rfl rfl (by decide) (by decide) (iw iT_12) rfl rfl (tw W_882) kv0 eb60 dX12_runFeast_168 ?_
      refine j_iload E dX12_runFeast_171 4 rfl ?_
      obtain ⟨o61, h⟩ := h
      refine j_iald E kb60 (by rw [lb60]; exact o61) dX12_runFeast_173 ?_
      refine j_icmp_ge E 186 dX12_runFeast_174 (by decide) (fun c62 => ?_) (fun c62 => ?_)
      · have h := h.1 c62
        refine j_bipush E (v := -2) dX12_runFeast_186 (by decide) ?_
        refine j_sub [0, 1, 2, 3, 4] rfl ?_
        exact m_X12_runFeast_b188 E K138 hK138 K145 hK145 v0 v1 v2 v3 v4 b57 v4 (-2 : Int32) Z I L hZ hx kv0 kb57 h
      · have h := h.2 c62
        refine j_aload_n E dX12_runFeast_177 0 rfl ?_
        refine j_iload E dX12_runFeast_178 4 rfl ?_
        refine j_callV E [.int v4] [.int v4, .ref b57] (c_X12_placeOf (gL G) (gD G) (gY G) v0 v4 Z I L _ hZ kv0 h) (gwV W_884 W_885 W_886 W_679 W_883) rfl ⟨rfl, fy_X12_placeOf⟩ ⟨by decide, by decide⟩ (c := 12) rfl (by decide) kv0 rfl rfl (Nat.le_of_ble_eq_true rfl) ⟨Nat.zero_le _, Nat.zero_le _⟩ dX12_runFeast_180 (fun v63 Z64 I65 L66 q67 => ?_)
        obtain ⟨rfl, r68, rfl, h⟩ := q67
        show jJ G 7 183 [(0, .ref v0), (1, .int v1), (2, .int v2), (3, .int v3), (4, .int v4)] [.int r68, .int v4, .ref b57] Z I65 L66 0 0
        refine j_goto E 188 dX12_runFeast_183 (by decide) ?_
        refine j_sub [0, 1, 2, 3, 4] rfl ?_
        exact m_X12_runFeast_b188 E K138 hK138 K145 hK145 v0 v1 v2 v3 v4 b57 v4 r68 Z I65 L66 hZ hx kv0 kb57 h
set_option maxRecDepth 100000 in
def f_X12_runFeast_L138  (Q : Int32 → jZ → jI → jL → Prop) : Nat → Nat → Int32 → Int32 → Int32 → jZ → jI → jL → Prop
  | 0 => fun _ _ _ _ _ _ _ => False
  | n + 1 => fun v0 v1 v2 v3 Z I L => ((v2 ≤ 0 → Q v3 Z I L) ∧ (¬ (v2 ≤ 0) → (∃ m145 : Nat, f_X12_runFeast_L145 (f_X12_runFeast_L138 Q n) Q m145 v0 v1 v2 v3 (0 : Int32) Z I L)))
set_option maxHeartbeats 4000000 in
set_option maxRecDepth 100000 in
theorem m_X12_runFeast_L138 {G : jG} {Z0 : jZ} {Q : Int32 → jZ → jI → jL → Prop} (E : jE G cX12_runFeast RX12 w_X12_runFeast 7 (some .int) { frames := 5, cells := 0, slots := 0, locals := 124 } (xrtI Z0 Q))  : ∀ (n : Nat) (v0 : Nat) (v1 : Int32) (v2 : Int32) (v3 : Int32) (Z : jZ) (I : jI) (L : jL), SH Z → jext Z0 Z → jk Z v0 12 → f_X12_runFeast_L138  Q n v0 v1 v2 v3 Z I L → jJ G 7 138 [(0, .ref v0), (1, .int v1), (2, .int v2), (3, .int v3)] [] Z I L 0 0 := by
  intro n
  induction n with
  | zero => intro v0 v1 v2 v3 Z I L _ _ _ h; exact h.elim
  | succ n ih =>
    intro v0 v1 v2 v3 Z I L hZ hx kv0 h
    have h : ((v2 ≤ 0 → Q v3 Z I L) ∧ (¬ (v2 ≤ 0) → (∃ m145 : Nat, f_X12_runFeast_L145 (f_X12_runFeast_L138 Q n) Q m145 v0 v1 v2 v3 (0 : Int32) Z I L))) := h
    obtain ⟨K138, eK138⟩ : ∃ K : Nat → Int32 → Int32 → Int32 → jZ → jI → jL → Prop, K = f_X12_runFeast_L138  Q n := ⟨_, rfl⟩
    have hK138 := ih
    clear eK138 K138
    generalize f_X12_runFeast_L138  Q n = K138 at hK138 h
    refine j_iload_n E dX12_runFeast_138 2 rfl ?_
    refine j_if_le E 393 dX12_runFeast_139 (by decide) (fun c69 => ?_) (fun c69 => ?_)
    · have h := h.1 c69
      refine j_iload_n E dX12_runFeast_393 3 rfl ?_
      exact j_ireturn E ⟨hx, hZ, _, rfl, h⟩ (Nat.zero_le _) (Nat.zero_le _) dX12_runFeast_394
    · have h := h.2 c69
      refine j_iconst E (v := 0) dX12_runFeast_142 (by decide) ?_
      refine j_istore E 4 [(4, .int (0 : Int32)), (0, .ref v0), (1, .int v1), (2, .int v2), (3, .int v3)] dX12_runFeast_143 (by decide) rfl ?_
      obtain ⟨n70, h⟩ := h
      refine j_sub [1, 2, 3, 4, 0] rfl ?_
      exact m_X12_runFeast_L145 E K138 hK138 n70 v0 v1 v2 v3 (0 : Int32) Z I L hZ hx kv0 h
set_option maxRecDepth 100000 in
def f_X12_runFeast_b128 (K30 : Nat → Int32 → Int32 → Int32 → jZ → jI → jL → Prop) (Q : Int32 → jZ → jI → jL → Prop) (v0 : Nat) (v1 : Int32) (v3 : Int32) (s0 : Int32) (s1 : Int32) (Z : jZ) (I : jI) (L : jL) : Prop := (∀ x71 : Int32, x71 = (s0 + s1) → (∀ x72 : Int32, x72 = v3 + 1 → K30 v0 v1 x71 x72 Z I L))
set_option maxHeartbeats 4000000 in
set_option maxRecDepth 100000 in
theorem m_X12_runFeast_b128 {G : jG} {Z0 : jZ} {Q : Int32 → jZ → jI → jL → Prop} (E : jE G cX12_runFeast RX12 w_X12_runFeast 7 (some .int) { frames := 5, cells := 0, slots := 0, locals := 124 } (xrtI Z0 Q)) (K30 : Nat → Int32 → Int32 → Int32 → jZ → jI → jL → Prop) (hK30 : ∀ (v0 : Nat) (v1 : Int32) (v2 : Int32) (v3 : Int32) (Z : jZ) (I : jI) (L : jL), SH Z → jext Z0 Z → jk Z v0 12 → K30 v0 v1 v2 v3 Z I L → jJ G 7 30 [(0, .ref v0), (1, .int v1), (2, .int v2), (3, .int v3)] [] Z I L 0 0) (v0 : Nat) (v1 : Int32) (v3 : Int32) (s0 : Int32) (s1 : Int32) (Z : jZ) (I : jI) (L : jL) (hZ : SH Z) (hx : jext Z0 Z) (kv0 : jk Z v0 12) (h : f_X12_runFeast_b128 K30 Q v0 v1 v3 s0 s1 Z I L) : jJ G 7 128 [(0, .ref v0), (1, .int v1), (3, .int v3)] [.int s1, .int s0] Z I L 0 0 := by
  refine j_iadd E dX12_runFeast_128 ?_
  refine j_topi (fun x71 ex71 => ?_)
  have h := h x71 ex71
  refine j_istore_n E 2 [(2, .int x71), (0, .ref v0), (1, .int v1), (3, .int v3)] dX12_runFeast_129 rfl (by decide) rfl ?_
  obtain ⟨x72, ex72⟩ : ∃ y : Int32, y = v3 + 1 := ⟨_, rfl⟩
  have h := h x72 ex72
  refine j_iinc E x72 [(3, .int x72), (2, .int x71), (0, .ref v0), (1, .int v1)] dX12_runFeast_130 3 rfl (by rw [ex72]; rfl) (by decide) rfl ?_
  refine j_goto E 30 dX12_runFeast_133 (by decide) ?_
  refine j_sub [2, 3, 1, 0] rfl ?_
  exact hK30 v0 v1 x71 x72 Z I L hZ hx kv0 h
set_option maxRecDepth 100000 in
def f_X12_runFeast_L77 (K30 : Nat → Int32 → Int32 → Int32 → jZ → jI → jL → Prop) (Q : Int32 → jZ → jI → jL → Prop) : Nat → Nat → Int32 → Int32 → Int32 → Int32 → jZ → jI → jL → Prop
  | 0 => fun _ _ _ _ _ _ _ _ => False
  | n + 1 => fun v0 v1 v2 v3 v4 Z I L => (∀ b73 : Nat, jr Z v0 56 = some b73 → (vp_in v3 6 ∧ (((I b73 v3.toNatClampNeg) ≤ v4 → (∀ b76 : Nat, jr Z v0 56 = some b76 → (vp_in v3 6 ∧ (((I b76 v3.toNatClampNeg) ≤ 0 → f_X12_runFeast_b128 K30 Q v0 v1 v3 v2 (0 : Int32) Z I L) ∧ (¬ ((I b76 v3.toNatClampNeg) ≤ 0) → f_X12_runFeast_b128 K30 Q v0 v1 v3 v2 (1 : Int32) Z I L))))) ∧ (¬ ((I b73 v3.toNatClampNeg) ≤ v4) → (∀ b79 : Nat, jr Z v0 55 = some b79 → (∀ b80 : Nat, jr Z v0 44 = some b80 → (vp_in v4 24 ∧ (vp_in (((24 : Int32) * v3) + v4) 144 ∧ (∀ I83 : jI, I83 = jpI I b79 (((24 : Int32) * v3) + v4).toNatClampNeg (I b80 v4.toNatClampNeg) → (∀ x84 : Int32, x84 = v4 + 1 → (f_X12_runFeast_L77 K30 Q n) v0 v1 v2 v3 x84 Z I83 L))))))))))
set_option maxHeartbeats 4000000 in
set_option maxRecDepth 100000 in
theorem m_X12_runFeast_L77 {G : jG} {Z0 : jZ} {Q : Int32 → jZ → jI → jL → Prop} (E : jE G cX12_runFeast RX12 w_X12_runFeast 7 (some .int) { frames := 5, cells := 0, slots := 0, locals := 124 } (xrtI Z0 Q)) (K30 : Nat → Int32 → Int32 → Int32 → jZ → jI → jL → Prop) (hK30 : ∀ (v0 : Nat) (v1 : Int32) (v2 : Int32) (v3 : Int32) (Z : jZ) (I : jI) (L : jL), SH Z → jext Z0 Z → jk Z v0 12 → K30 v0 v1 v2 v3 Z I L → jJ G 7 30 [(0, .ref v0), (1, .int v1), (2, .int v2), (3, .int v3)] [] Z I L 0 0) : ∀ (n : Nat) (v0 : Nat) (v1 : Int32) (v2 : Int32) (v3 : Int32) (v4 : Int32) (Z : jZ) (I : jI) (L : jL), SH Z → jext Z0 Z → jk Z v0 12 → f_X12_runFeast_L77 K30 Q n v0 v1 v2 v3 v4 Z I L → jJ G 7 77 [(0, .ref v0), (1, .int v1), (2, .int v2), (3, .int v3), (4, .int v4)] [] Z I L 0 0 := by
  intro n
  induction n with
  | zero => intro v0 v1 v2 v3 v4 Z I L _ _ _ h; exact h.elim
  | succ n ih =>
    intro v0 v1 v2 v3 v4 Z I L hZ hx kv0 h
    have h : (∀ b73 : Nat, jr Z v0 56 = some b73 → (vp_in v3 6 ∧ (((I b73 v3.toNatClampNeg) ≤ v4 → (∀ b76 : Nat, jr Z v0 56 = some b76 → (vp_in v3 6 ∧ (((I b76 v3.toNatClampNeg) ≤ 0 → f_X12_runFeast_b128 K30 Q v0 v1 v3 v2 (0 : Int32) Z I L) ∧ (¬ ((I b76 v3.toNatClampNeg) ≤ 0) → f_X12_runFeast_b128 K30 Q v0 v1 v3 v2 (1 : Int32) Z I L))))) ∧ (¬ ((I b73 v3.toNatClampNeg) ≤ v4) → (∀ b79 : Nat, jr Z v0 55 = some b79 → (∀ b80 : Nat, jr Z v0 44 = some b80 → (vp_in v4 24 ∧ (vp_in (((24 : Int32) * v3) + v4) 144 ∧ (∀ I83 : jI, I83 = jpI I b79 (((24 : Int32) * v3) + v4).toNatClampNeg (I b80 v4.toNatClampNeg) → (∀ x84 : Int32, x84 = v4 + 1 → (f_X12_runFeast_L77 K30 Q n) v0 v1 v2 v3 x84 Z I83 L)))))))))) := h
    obtain ⟨K77, eK77⟩ : ∃ K : Nat → Int32 → Int32 → Int32 → Int32 → jZ → jI → jL → Prop, K = f_X12_runFeast_L77 K30 Q n := ⟨_, rfl⟩
    have hK77 := ih
    clear eK77 K77
    generalize f_X12_runFeast_L77 K30 Q n = K77 at hK77 h
    refine j_iload E dX12_runFeast_77 4 rfl ?_
    refine j_aload_n E dX12_runFeast_79 0 rfl ?_
    obtain ⟨b73, eb73, kb73, lb73⟩ := sh_f hZ kv0 (j := 56) (k := 14) (m := 6) rfl
    have h := h b73 eb73
    refine j_getr E 12 56 rfl rfl (by decide) (by decide) (iw iT_12) rfl rfl (tw W_882) kv0 eb73 dX12_runFeast_80 ?_
    refine j_iload_n E dX12_runFeast_83 3 rfl ?_
    obtain ⟨o74, h⟩ := h
    refine j_iald E kb73 (by rw [lb73]; exact o74) dX12_runFeast_84 ?_
    refine j_icmp_ge E 113 dX12_runFeast_85 (by decide) (fun c75 => ?_) (fun c75 => ?_)
    · have h := h.1 c75
      refine j_iload_n E dX12_runFeast_113 2 rfl ?_
      refine j_aload_n E dX12_runFeast_114 0 rfl ?_
      obtain ⟨b76, eb76, kb76, lb76⟩ := sh_f hZ kv0 (j := 56) (k := 14) (m := 6) rfl
      have h := h b76 eb76
      refine j_getr E 12 56 rfl rfl (by decide) (by decide) (iw iT_12) rfl rfl (tw W_882) kv0 eb76 dX12_runFeast_115 ?_
      refine j_iload_n E dX12_runFeast_118 3 rfl ?_
      obtain ⟨o77, h⟩ := h
      refine j_iald E kb76 (by rw [lb76]; exact o77) dX12_runFeast_119 ?_
      refine j_if_le E 127 dX12_runFeast_120 (by decide) (fun c78 => ?_) (fun c78 => ?_)
      · have h := h.1 c78
        refine j_iconst E (v := 0) dX12_runFeast_127 (by decide) ?_
        refine j_sub [0, 1, 3] rfl ?_
        exact m_X12_runFeast_b128 E K30 hK30 v0 v1 v3 v2 (0 : Int32) Z I L hZ hx kv0 h
      · have h := h.2 c78
        refine j_iconst E (v := 1) dX12_runFeast_123 (by decide) ?_
        refine j_goto E 128 dX12_runFeast_124 (by decide) ?_
        refine j_sub [0, 1, 3] rfl ?_
        exact m_X12_runFeast_b128 E K30 hK30 v0 v1 v3 v2 (1 : Int32) Z I L hZ hx kv0 h
    · have h := h.2 c75
      refine j_aload_n E dX12_runFeast_88 0 rfl ?_
      obtain ⟨b79, eb79, kb79, lb79⟩ := sh_f hZ kv0 (j := 55) (k := 14) (m := 144) rfl
      have h := h b79 eb79
      refine j_getr E 12 55 rfl rfl (by decide) (by decide) (iw iT_12) rfl rfl (tw W_881) kv0 eb79 dX12_runFeast_89 ?_
      refine j_bipush E (v := 24) dX12_runFeast_92 (by decide) ?_
      refine j_iload_n E dX12_runFeast_94 3 rfl ?_
      refine j_imul E dX12_runFeast_95 ?_
      refine j_iload E dX12_runFeast_96 4 rfl ?_
      refine j_iadd E dX12_runFeast_98 ?_
      refine j_aload_n E dX12_runFeast_99 0 rfl ?_
      obtain ⟨b80, eb80, kb80, lb80⟩ := sh_f hZ kv0 (j := 44) (k := 14) (m := 24) rfl
      have h := h b80 eb80
      refine j_getr E 12 44 rfl rfl (by decide) (by decide) (iw iT_12) rfl rfl (tw W_815) kv0 eb80 dX12_runFeast_100 ?_
      refine j_iload E dX12_runFeast_103 4 rfl ?_
      obtain ⟨o81, h⟩ := h
      refine j_iald E kb80 (by rw [lb80]; exact o81) dX12_runFeast_105 ?_
      obtain ⟨o82, h⟩ := h
      refine j_iast E kb79 (by rw [lb79]; exact o82) dX12_runFeast_106 ?_
      refine j_nmI (fun I83 eI83 => ?_)
      have h := h I83 eI83
      obtain ⟨x84, ex84⟩ : ∃ y : Int32, y = v4 + 1 := ⟨_, rfl⟩
      have h := h x84 ex84
      refine j_iinc E x84 [(4, .int x84), (0, .ref v0), (1, .int v1), (2, .int v2), (3, .int v3)] dX12_runFeast_107 4 rfl (by rw [ex84]; rfl) (by decide) rfl ?_
      refine j_goto E 77 dX12_runFeast_110 (by decide) ?_
      refine j_sub [1, 2, 3, 4, 0] rfl ?_
      exact hK77 v0 v1 v2 v3 x84 Z I83 L hZ hx kv0 h
set_option maxRecDepth 100000 in
def f_X12_runFeast_b73 (K30 : Nat → Int32 → Int32 → Int32 → jZ → jI → jL → Prop) (Q : Int32 → jZ → jI → jL → Prop) (v0 : Nat) (v1 : Int32) (v2 : Int32) (v3 : Int32) (s0 : Nat) (s1 : Int32) (s2 : Int32) (Z : jZ) (I : jI) (L : jL) : Prop := (vp_in s1 (jlen Z s0) ∧ (∀ I86 : jI, I86 = jpI I s0 s1.toNatClampNeg s2 → (∃ m77 : Nat, f_X12_runFeast_L77 K30 Q m77 v0 v1 v2 v3 (0 : Int32) Z I86 L)))
set_option maxHeartbeats 4000000 in
set_option maxRecDepth 100000 in
theorem m_X12_runFeast_b73 {G : jG} {Z0 : jZ} {Q : Int32 → jZ → jI → jL → Prop} (E : jE G cX12_runFeast RX12 w_X12_runFeast 7 (some .int) { frames := 5, cells := 0, slots := 0, locals := 124 } (xrtI Z0 Q)) (K30 : Nat → Int32 → Int32 → Int32 → jZ → jI → jL → Prop) (hK30 : ∀ (v0 : Nat) (v1 : Int32) (v2 : Int32) (v3 : Int32) (Z : jZ) (I : jI) (L : jL), SH Z → jext Z0 Z → jk Z v0 12 → K30 v0 v1 v2 v3 Z I L → jJ G 7 30 [(0, .ref v0), (1, .int v1), (2, .int v2), (3, .int v3)] [] Z I L 0 0) (v0 : Nat) (v1 : Int32) (v2 : Int32) (v3 : Int32) (s0 : Nat) (s1 : Int32) (s2 : Int32) (Z : jZ) (I : jI) (L : jL) (hZ : SH Z) (hx : jext Z0 Z) (kv0 : jk Z v0 12) (ks0 : jk Z s0 14) (h : f_X12_runFeast_b73 K30 Q v0 v1 v2 v3 s0 s1 s2 Z I L) : jJ G 7 73 [(0, .ref v0), (1, .int v1), (2, .int v2), (3, .int v3)] [.int s2, .int s1, .ref s0] Z I L 0 0 := by
  obtain ⟨o85, h⟩ := h
  refine j_iast E ks0 o85 dX12_runFeast_73 ?_
  refine j_nmI (fun I86 eI86 => ?_)
  have h := h I86 eI86
  refine j_iconst E (v := 0) dX12_runFeast_74 (by decide) ?_
  refine j_istore E 4 [(4, .int (0 : Int32)), (0, .ref v0), (1, .int v1), (2, .int v2), (3, .int v3)] dX12_runFeast_75 (by decide) rfl ?_
  obtain ⟨n87, h⟩ := h
  refine j_sub [1, 2, 3, 4, 0] rfl ?_
  exact m_X12_runFeast_L77 E K30 hK30 n87 v0 v1 v2 v3 (0 : Int32) Z I86 L hZ hx kv0 h
set_option maxRecDepth 100000 in
def f_X12_runFeast_L30  (Q : Int32 → jZ → jI → jL → Prop) : Nat → Nat → Int32 → Int32 → Int32 → jZ → jI → jL → Prop
  | 0 => fun _ _ _ _ _ _ _ => False
  | n + 1 => fun v0 v1 v2 v3 Z I L => (((I v0 8) ≤ v3 → (∃ m138 : Nat, f_X12_runFeast_L138  Q m138 v0 v1 v2 (0 : Int32) Z I L)) ∧ (¬ ((I v0 8) ≤ v3) → (∀ b90 : Nat, jr Z v0 57 = some b90 → (vp_in v3 6 ∧ (∀ I92 : jI, I92 = jpI I b90 v3.toNatClampNeg (0 : Int32) → (∀ b93 : Nat, jr Z v0 58 = some b93 → (vp_in v3 6 ∧ (∀ I95 : jI, I95 = jpI I92 b93 v3.toNatClampNeg (0 : Int32) → (∀ b96 : Nat, jr Z v0 56 = some b96 → (f_X12_findClimb v0 v3 Z I95 L (fun r102 Z98 I99 L100 => ((r102 = 0 → f_X12_runFeast_b73 (f_X12_runFeast_L30 Q n) Q v0 v1 v2 v3 b96 v3 (0 : Int32) Z98 I99 L100) ∧ (¬ (r102 = 0) → f_X12_runFeast_b73 (f_X12_runFeast_L30 Q n) Q v0 v1 v2 v3 b96 v3 (I99 v0 43) Z98 I99 L100)))))))))))))
set_option maxHeartbeats 4000000 in
set_option maxRecDepth 100000 in
theorem m_X12_runFeast_L30 {G : jG} {Z0 : jZ} {Q : Int32 → jZ → jI → jL → Prop} (E : jE G cX12_runFeast RX12 w_X12_runFeast 7 (some .int) { frames := 5, cells := 0, slots := 0, locals := 124 } (xrtI Z0 Q))  : ∀ (n : Nat) (v0 : Nat) (v1 : Int32) (v2 : Int32) (v3 : Int32) (Z : jZ) (I : jI) (L : jL), SH Z → jext Z0 Z → jk Z v0 12 → f_X12_runFeast_L30  Q n v0 v1 v2 v3 Z I L → jJ G 7 30 [(0, .ref v0), (1, .int v1), (2, .int v2), (3, .int v3)] [] Z I L 0 0 := by
  intro n
  induction n with
  | zero => intro v0 v1 v2 v3 Z I L _ _ _ h; exact h.elim
  | succ n ih =>
    intro v0 v1 v2 v3 Z I L hZ hx kv0 h
    have h : (((I v0 8) ≤ v3 → (∃ m138 : Nat, f_X12_runFeast_L138  Q m138 v0 v1 v2 (0 : Int32) Z I L)) ∧ (¬ ((I v0 8) ≤ v3) → (∀ b90 : Nat, jr Z v0 57 = some b90 → (vp_in v3 6 ∧ (∀ I92 : jI, I92 = jpI I b90 v3.toNatClampNeg (0 : Int32) → (∀ b93 : Nat, jr Z v0 58 = some b93 → (vp_in v3 6 ∧ (∀ I95 : jI, I95 = jpI I92 b93 v3.toNatClampNeg (0 : Int32) → (∀ b96 : Nat, jr Z v0 56 = some b96 → (f_X12_findClimb v0 v3 Z I95 L (fun r102 Z98 I99 L100 => ((r102 = 0 → f_X12_runFeast_b73 (f_X12_runFeast_L30 Q n) Q v0 v1 v2 v3 b96 v3 (0 : Int32) Z98 I99 L100) ∧ (¬ (r102 = 0) → f_X12_runFeast_b73 (f_X12_runFeast_L30 Q n) Q v0 v1 v2 v3 b96 v3 (I99 v0 43) Z98 I99 L100))))))))))))) := h
    obtain ⟨K30, eK30⟩ : ∃ K : Nat → Int32 → Int32 → Int32 → jZ → jI → jL → Prop, K = f_X12_runFeast_L30  Q n := ⟨_, rfl⟩
    have hK30 := ih
    clear eK30 K30
    generalize f_X12_runFeast_L30  Q n = K30 at hK30 h
    refine j_iload_n E dX12_runFeast_30 3 rfl ?_
    refine j_aload_n E dX12_runFeast_31 0 rfl ?_
    refine j_geti E 12 8 rfl rfl (by decide) (by decide) (iw iT_12) rfl rfl (tw W_682) kv0 dX12_runFeast_32 ?_
    refine j_icmp_ge E 136 dX12_runFeast_35 (by decide) (fun c88 => ?_) (fun c88 => ?_)
    · have h := h.1 c88
      refine j_iconst E (v := 0) dX12_runFeast_136 (by decide) ?_
      refine j_istore_n E 3 [(3, .int (0 : Int32)), (0, .ref v0), (1, .int v1), (2, .int v2)] dX12_runFeast_137 rfl (by decide) rfl ?_
      obtain ⟨n89, h⟩ := h
      refine j_sub [1, 2, 3, 0] rfl ?_
      exact m_X12_runFeast_L138 E  n89 v0 v1 v2 (0 : Int32) Z I L hZ hx kv0 h
    · have h := h.2 c88
      refine j_aload_n E dX12_runFeast_38 0 rfl ?_
      obtain ⟨b90, eb90, kb90, lb90⟩ := sh_f hZ kv0 (j := 57) (k := 14) (m := 6) rfl
      have h := h b90 eb90
      refine j_getr E 12 57 rfl rfl (by decide) (by decide) (iw iT_12) rfl rfl (tw W_880) kv0 eb90 dX12_runFeast_39 ?_
      refine j_iload_n E dX12_runFeast_42 3 rfl ?_
      refine j_iconst E (v := 0) dX12_runFeast_43 (by decide) ?_
      obtain ⟨o91, h⟩ := h
      refine j_iast E kb90 (by rw [lb90]; exact o91) dX12_runFeast_44 ?_
      refine j_nmI (fun I92 eI92 => ?_)
      have h := h I92 eI92
      refine j_aload_n E dX12_runFeast_45 0 rfl ?_
      obtain ⟨b93, eb93, kb93, lb93⟩ := sh_f hZ kv0 (j := 58) (k := 14) (m := 6) rfl
      have h := h b93 eb93
      refine j_getr E 12 58 rfl rfl (by decide) (by decide) (iw iT_12) rfl rfl (tw W_893) kv0 eb93 dX12_runFeast_46 ?_
      refine j_iload_n E dX12_runFeast_49 3 rfl ?_
      refine j_iconst E (v := 0) dX12_runFeast_50 (by decide) ?_
      obtain ⟨o94, h⟩ := h
      refine j_iast E kb93 (by rw [lb93]; exact o94) dX12_runFeast_51 ?_
      refine j_nmI (fun I95 eI95 => ?_)
      have h := h I95 eI95
      refine j_aload_n E dX12_runFeast_52 0 rfl ?_
      obtain ⟨b96, eb96, kb96, lb96⟩ := sh_f hZ kv0 (j := 56) (k := 14) (m := 6) rfl
      have h := h b96 eb96
      refine j_getr E 12 56 rfl rfl (by decide) (by decide) (iw iT_12) rfl rfl (tw W_882) kv0 eb96 dX12_runFeast_53 ?_
      refine j_iload_n E dX12_runFeast_56 3 rfl ?_
      refine j_aload_n E dX12_runFeast_57 0 rfl ?_
      refine j_iload_n E dX12_runFeast_58 3 rfl ?_
      refine j_callV E [.int v3] [.int v3, .ref b96] (c_X12_findClimb (gL G) (gD G) (gY G) v0 v3 Z I95 L _ hZ kv0 h) (gwV W_828 W_829 W_830 W_679 W_827) rfl ⟨rfl, fy_X12_findClimb⟩ ⟨by decide, by decide⟩ (c := 12) rfl (by decide) kv0 rfl rfl (Nat.le_of_ble_eq_true rfl) ⟨Nat.zero_le _, Nat.zero_le _⟩ dX12_runFeast_59 (fun v97 Z98 I99 L100 q101 => ?_)
      obtain ⟨yZ98, hZ98, r102, rfl, zr102, h⟩ := q101
      have hZ := hZ98
      have hx : jext Z0 Z98 := jext_trans hx yZ98
      have k103 := (yZ98 _ _ kv0).1
      have k104 := (yZ98 _ _ kb96).1
      have l105 := (yZ98 _ _ kb96).2.trans lb96
      show jJ G 7 62 [(0, .ref v0), (1, .int v1), (2, .int v2), (3, .int v3)] [.int r102, .int v3, .ref b96] Z98 I99 L100 0 0
      refine j_if_eq E 72 dX12_runFeast_62 (by decide) (fun c106 => ?_) (fun c106 => ?_)
      · have h := h.1 c106
        refine j_iconst E (v := 0) dX12_runFeast_72 (by decide) ?_
        refine j_sub [0, 1, 2, 3] rfl ?_
        exact m_X12_runFeast_b73 E K30 hK30 v0 v1 v2 v3 b96 v3 (0 : Int32) Z98 I99 L100 hZ hx k103 k104 h
      · have h := h.2 c106
        refine j_aload_n E dX12_runFeast_65 0 rfl ?_
        refine j_geti E 12 43 rfl rfl (by decide) (by decide) (iw iT_12) rfl rfl (tw W_816) k103 dX12_runFeast_66 ?_
        refine j_goto E 73 dX12_runFeast_69 (by decide) ?_
        refine j_sub [0, 1, 2, 3] rfl ?_
        exact m_X12_runFeast_b73 E K30 hK30 v0 v1 v2 v3 b96 v3 (I99 v0 43) Z98 I99 L100 hZ hx k103 k104 h
set_option maxRecDepth 100000 in
def f_X12_runFeast_L2  (Q : Int32 → jZ → jI → jL → Prop) : Nat → Nat → Int32 → Int32 → jZ → jI → jL → Prop
  | 0 => fun _ _ _ _ _ _ => False
  | n + 1 => fun v0 v1 v2 Z I L => (((24 : Int32) ≤ v2 → (∀ I108 : jI, I108 = jpI I v0 60 (0 : Int32) → (∃ m30 : Nat, f_X12_runFeast_L30  Q m30 v0 v1 (0 : Int32) (0 : Int32) Z I108 L))) ∧ (¬ ((24 : Int32) ≤ v2) → (∀ b110 : Nat, jr Z v0 59 = some b110 → (vp_in v2 24 ∧ (∀ I112 : jI, I112 = jpI I b110 v2.toNatClampNeg (0 : Int32) → (∀ x113 : Int32, x113 = v2 + 1 → (f_X12_runFeast_L2 Q n) v0 v1 x113 Z I112 L))))))
set_option maxHeartbeats 4000000 in
set_option maxRecDepth 100000 in
theorem m_X12_runFeast_L2 {G : jG} {Z0 : jZ} {Q : Int32 → jZ → jI → jL → Prop} (E : jE G cX12_runFeast RX12 w_X12_runFeast 7 (some .int) { frames := 5, cells := 0, slots := 0, locals := 124 } (xrtI Z0 Q))  : ∀ (n : Nat) (v0 : Nat) (v1 : Int32) (v2 : Int32) (Z : jZ) (I : jI) (L : jL), SH Z → jext Z0 Z → jk Z v0 12 → f_X12_runFeast_L2  Q n v0 v1 v2 Z I L → jJ G 7 2 [(0, .ref v0), (1, .int v1), (2, .int v2)] [] Z I L 0 0 := by
  intro n
  induction n with
  | zero => intro v0 v1 v2 Z I L _ _ _ h; exact h.elim
  | succ n ih =>
    intro v0 v1 v2 Z I L hZ hx kv0 h
    have h : (((24 : Int32) ≤ v2 → (∀ I108 : jI, I108 = jpI I v0 60 (0 : Int32) → (∃ m30 : Nat, f_X12_runFeast_L30  Q m30 v0 v1 (0 : Int32) (0 : Int32) Z I108 L))) ∧ (¬ ((24 : Int32) ≤ v2) → (∀ b110 : Nat, jr Z v0 59 = some b110 → (vp_in v2 24 ∧ (∀ I112 : jI, I112 = jpI I b110 v2.toNatClampNeg (0 : Int32) → (∀ x113 : Int32, x113 = v2 + 1 → (f_X12_runFeast_L2 Q n) v0 v1 x113 Z I112 L)))))) := h
    obtain ⟨K2, eK2⟩ : ∃ K : Nat → Int32 → Int32 → jZ → jI → jL → Prop, K = f_X12_runFeast_L2  Q n := ⟨_, rfl⟩
    have hK2 := ih
    clear eK2 K2
    generalize f_X12_runFeast_L2  Q n = K2 at hK2 h
    refine j_iload_n E dX12_runFeast_2 2 rfl ?_
    refine j_bipush E (v := 24) dX12_runFeast_3 (by decide) ?_
    refine j_icmp_ge E 21 dX12_runFeast_5 (by decide) (fun c107 => ?_) (fun c107 => ?_)
    · have h := h.1 c107
      refine j_aload_n E dX12_runFeast_21 0 rfl ?_
      refine j_iconst E (v := 0) dX12_runFeast_22 (by decide) ?_
      refine j_puti E 12 60 rfl rfl (by decide) (by decide) (iw iT_12) tyX12_ok nmX12 rfl rfl (tw W_887) rfl rfl rfl kv0 dX12_runFeast_23 ?_
      refine j_nmI (fun I108 eI108 => ?_)
      have h := h I108 eI108
      refine j_iconst E (v := 0) dX12_runFeast_26 (by decide) ?_
      refine j_istore_n E 2 [(2, .int (0 : Int32)), (0, .ref v0), (1, .int v1)] dX12_runFeast_27 rfl (by decide) rfl ?_
      refine j_iconst E (v := 0) dX12_runFeast_28 (by decide) ?_
      refine j_istore_n E 3 [(3, .int (0 : Int32)), (2, .int (0 : Int32)), (0, .ref v0), (1, .int v1)] dX12_runFeast_29 rfl (by decide) rfl ?_
      obtain ⟨n109, h⟩ := h
      refine j_sub [2, 3, 1, 0] rfl ?_
      exact m_X12_runFeast_L30 E  n109 v0 v1 (0 : Int32) (0 : Int32) Z I108 L hZ hx kv0 h
    · have h := h.2 c107
      refine j_aload_n E dX12_runFeast_8 0 rfl ?_
      obtain ⟨b110, eb110, kb110, lb110⟩ := sh_f hZ kv0 (j := 59) (k := 14) (m := 24) rfl
      have h := h b110 eb110
      refine j_getr E 12 59 rfl rfl (by decide) (by decide) (iw iT_12) rfl rfl (tw W_894) kv0 eb110 dX12_runFeast_9 ?_
      refine j_iload_n E dX12_runFeast_12 2 rfl ?_
      refine j_iconst E (v := 0) dX12_runFeast_13 (by decide) ?_
      obtain ⟨o111, h⟩ := h
      refine j_iast E kb110 (by rw [lb110]; exact o111) dX12_runFeast_14 ?_
      refine j_nmI (fun I112 eI112 => ?_)
      have h := h I112 eI112
      obtain ⟨x113, ex113⟩ : ∃ y : Int32, y = v2 + 1 := ⟨_, rfl⟩
      have h := h x113 ex113
      refine j_iinc E x113 [(2, .int x113), (0, .ref v0), (1, .int v1)] dX12_runFeast_15 2 rfl (by rw [ex113]; rfl) (by decide) rfl ?_
      refine j_goto E 2 dX12_runFeast_18 (by decide) ?_
      refine j_sub [1, 2, 0] rfl ?_
      exact hK2 v0 v1 x113 Z I112 L hZ hx kv0 h
set_option maxRecDepth 100000 in
def f_X12_runFeast (v0 : Nat) (v1 : Int32) (Z : jZ) (I : jI) (L : jL) (Q : Int32 → jZ → jI → jL → Prop) : Prop := (∃ m2 : Nat, f_X12_runFeast_L2  Q m2 v0 v1 (0 : Int32) Z I L)
set_option maxHeartbeats 4000000 in
set_option maxRecDepth 100000 in
theorem c_X12_runFeast (l : Launch) (D : va_G) (cy : jC) (v0 : Nat) (v1 : Int32) (Z : jZ) (I : jI) (L : jL) (Q : Int32 → jZ → jI → jL → Prop) (hZ : SH Z) (kv0 : jk Z v0 12) (h : f_X12_runFeast v0 v1 Z I L Q) : jCt l yX12_runFeast w_X12_runFeast { frames := 5, cells := 0, slots := 0, locals := 124 } D cy [.ref v0, .int v1] Z I L (xrtI Z Q) := by
  refine jCt_of (cc := cX12_runFeast) (maxL := 7) (ret := (some .int)) (by decide +kernel) rfl (Nat.le_of_ble_eq_true rfl) ?_
  intro G eD eY eL E
  subst eD; subst eY; subst eL
  have E : jE G cX12_runFeast RX12 w_X12_runFeast 7 (some .int) { frames := 5, cells := 0, slots := 0, locals := 124 } (xrtI Z Q) := E
  have hx : jext Z Z := jext_rfl
  show jJ G 7 0 [(0, .ref v0), (1, .int v1)] [] Z I L 0 0
  refine j_iconst E (v := 0) dX12_runFeast_0 (by decide) ?_
  refine j_istore_n E 2 [(2, .int (0 : Int32)), (0, .ref v0), (1, .int v1)] dX12_runFeast_1 rfl (by decide) rfl ?_
  obtain ⟨n114, h⟩ := h
  refine j_sub [1, 2, 0] rfl ?_
  exact m_X12_runFeast_L2 E  n114 v0 v1 (0 : Int32) Z I L hZ hx kv0 h
