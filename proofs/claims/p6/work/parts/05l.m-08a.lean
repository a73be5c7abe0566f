section
set_option maxRecDepth 100000 in
def f_X12_rules_b192 (K40 : Nat → Int32 → Int32 → Int32 → Int32 → jI → jL → Prop) (Z : jZ) (Q : Int32 → jI → jL → Prop) (v0 : Nat) (v1 : Int32) (v2 : Int32) (v3 : Int32) (v4 : Int32) (I : jI) (L : jL) : Prop := (∀ x1 : Int32, x1 = v4 + 1 → K40 v0 v1 v2 v3 x1 I L)
set_option maxHeartbeats 4000000 in
set_option maxRecDepth 100000 in
theorem m_X12_rules_b192 {G : jG} {Z : jZ} {Q : Int32 → jI → jL → Prop} (E : jE G cX12_rules RX12 w_X12_rules 7 (some .int) { frames := 2, cells := 0, slots := 0, locals := 43 } (rtI Z Q)) (hZ : SH Z) (K40 : Nat → Int32 → Int32 → Int32 → Int32 → jI → jL → Prop) (hK40 : ∀ (v0 : Nat) (v1 : Int32) (v2 : Int32) (v3 : Int32) (v4 : Int32) (I : jI) (L : jL), jk Z v0 12 → K40 v0 v1 v2 v3 v4 I L → jJ G 7 40 [(0, .ref v0), (1, .int v1), (2, .int v2), (3, .int v3), (4, .int v4)] [] Z I L 0 0) (v0 : Nat) (v1 : Int32) (v2 : Int32) (v3 : Int32) (v4 : Int32) (I : jI) (L : jL) (kv0 : jk Z v0 12) (h : f_X12_rules_b192 K40 Z Q v0 v1 v2 v3 v4 I L) : jJ G 7 192 [(0, .ref v0), (1, .int v1), (2, .int v2), (3, .int v3), (4, .int v4)] [] Z I L 0 0 := by
  obtain ⟨x1, ex1⟩ : ∃ y : Int32, y = v4 + 1 := ⟨_, rfl⟩
  have h := h x1 ex1
  refine j_iinc E x1 [(4, .int x1), (0, .ref v0), (1, .int v1), (2, .int v2), (3, .int v3)] dX12_rules_192 4 rfl (by rw [ex1]; rfl) (by decide) rfl ?_
  refine j_goto E 40 dX12_rules_195 (by decide) ?_
  refine j_sub [1, 2, 3, 4, 0] rfl ?_
  exact hK40 v0 v1 v2 v3 x1 I L kv0 h
set_option maxRecDepth 100000 in
def f_X12_rules_b189 (K40 : Nat → Int32 → Int32 → Int32 → Int32 → jI → jL → Prop) (Z : jZ) (Q : Int32 → jI → jL → Prop) (v0 : Nat) (v1 : Int32) (v2 : Int32) (v4 : Int32) (I : jI) (L : jL) : Prop := f_X12_rules_b192 K40 Z Q v0 v1 v2 v4 v4 I L
set_option maxHeartbeats 4000000 in
set_option maxRecDepth 100000 in
theorem m_X12_rules_b189 {G : jG} {Z : jZ} {Q : Int32 → jI → jL → Prop} (E : jE G cX12_rules RX12 w_X12_rules 7 (some .int) { frames := 2, cells := 0, slots := 0, locals := 43 } (rtI Z Q)) (hZ : SH Z) (K40 : Nat → Int32 → Int32 → Int32 → Int32 → jI → jL → Prop) (hK40 : ∀ (v0 : Nat) (v1 : Int32) (v2 : Int32) (v3 : Int32) (v4 : Int32) (I : jI) (L : jL), jk Z v0 12 → K40 v0 v1 v2 v3 v4 I L → jJ G 7 40 [(0, .ref v0), (1, .int v1), (2, .int v2), (3, .int v3), (4, .int v4)] [] Z I L 0 0) (v0 : Nat) (v1 : Int32) (v2 : Int32) (v4 : Int32) (I : jI) (L : jL) (kv0 : jk Z v0 12) (h : f_X12_rules_b189 K40 Z Q v0 v1 v2 v4 I L) : jJ G 7 189 [(0, .ref v0), (1, .int v1), (2, .int v2), (4, .int v4)] [] Z I L 0 0 := by
  refine j_iload E dX12_rules_189 3 rfl ?_
  refine j_istore_n E 3 [(3, .int v4), (0, .ref v0), (1, .int v1), (2, .int v2), (4, .int v4)] dX12_rules_191 rfl (by decide) rfl ?_
  refine j_sub [1, 2, 3, 0, 4] rfl ?_
  exact m_X12_rules_b192 E hZ K40 hK40 v0 v1 v2 v4 v4 I L kv0 h
set_option maxRecDepth 100000 in
def f_X12_rules_b167 (K40 : Nat → Int32 → Int32 → Int32 → Int32 → jI → jL → Prop) (Z : jZ) (Q : Int32 → jI → jL → Prop) (v0 : Nat) (v1 : Int32) (v2 : Int32) (v3 : Int32) (v4 : Int32) (s0 : Int32) (s1 : Int32) (I : jI) (L : jL) : Prop := ((s1 < s0 → ((v3 = 0 → f_X12_rules_b189 K40 Z Q v0 v1 v2 v4 I L) ∧ (¬ (v3 = 0) → (f_J6_bitCount_0f7a4 v4 Z I L (fun r10 I6 L7 => (f_J6_bitCount_0f7a4 v3 Z I6 L7 (fun r17 I13 L14 => ((r17 ≤ r10 → f_X12_rules_b192 K40 Z Q v0 v1 v2 v3 v4 I13 L14) ∧ (¬ (r17 ≤ r10) → f_X12_rules_b189 K40 Z Q v0 v1 v2 v4 I13 L14))))))))) ∧ (¬ (s1 < s0) → f_X12_rules_b192 K40 Z Q v0 v1 v2 v3 v4 I L))
set_option maxHeartbeats 4000000 in
set_option maxRecDepth 100000 in
theorem m_X12_rules_b167 {G : jG} {Z : jZ} {Q : Int32 → jI → jL → Prop} (E : jE G cX12_rules RX12 w_X12_rules 7 (some .int) { frames := 2, cells := 0, slots := 0, locals := 43 } (rtI Z Q)) (hZ : SH Z) (K40 : Nat → Int32 → Int32 → Int32 → Int32 → jI → jL → Prop) (hK40 : ∀ (v0 : Nat) (v1 : Int32) (v2 : Int32) (v3 : Int32) (v4 : Int32) (I : jI) (L : jL), jk Z v0 12 → K40 v0 v1 v2 v3 v4 I L → jJ G 7 40 [(0, .ref v0), (1, .int v1), (2, .int v2), (3, .int v3), (4, .int v4)] [] Z I L 0 0) (v0 : Nat) (v1 : Int32) (v2 : Int32) (v3 : Int32) (v4 : Int32) (s0 : Int32) (s1 : Int32) (I : jI) (L : jL) (kv0 : jk Z v0 12) (h : f_X12_rules_b167 K40 Z Q v0 v1 v2 v3 v4 s0 s1 I L) : jJ G 7 167 [(0, .ref v0), (1, .int v1), (2, .int v2), (3, .int v3), (4, .int v4)] [.int s1, .int s0] Z I L 0 0 := by
  refine j_icmp_gt E 173 dX12_rules_167 (by decide) (fun c2 => ?_) (fun c2 => ?_)
  · have h := h.1 c2
    refine j_iload_n E dX12_rules_173 3 rfl ?_
    refine j_if_eq E 189 dX12_rules_174 (by decide) (fun c3 => ?_) (fun c3 => ?_)
    · have h := h.1 c3
      refine j_sub [0, 1, 2, 4] rfl ?_
      exact m_X12_rules_b189 E hZ K40 hK40 v0 v1 v2 v4 I L kv0 h
    · have h := h.2 c3
      refine j_iload E dX12_rules_177 4 rfl ?_
      refine j_callS E [.int v4] [] (c_J6_bitCount_0f7a4 (gL G) (gD G) (gY G) v4 Z I L _ hZ  h) (gwS W_915 W_242 W_240 W_239) rfl fy_J6_bitCount_0f7a4 ⟨by decide, by decide⟩ rfl rfl (Nat.le_of_ble_eq_true rfl) ⟨Nat.zero_le _, Nat.zero_le _⟩ dX12_rules_179 (fun v4 Z5 I6 L7 q8 => ?_)
      obtain ⟨rfl, r10, rfl, h⟩ := q8
      show jJ G 7 182 [(0, .ref v0), (1, .int v1), (2, .int v2), (3, .int v3), (4, .int v4)] [.int r10] Z I6 L7 0 0
      refine j_iload_n E dX12_rules_182 3 rfl ?_
      refine j_callS E [.int v3] [.int r10] (c_J6_bitCount_0f7a4 (gL G) (gD G) (gY G) v3 Z I6 L7 _ hZ  h) (gwS W_915 W_242 W_240 W_239) rfl fy_J6_bitCount_0f7a4 ⟨by decide, by decide⟩ rfl rfl (Nat.le_of_ble_eq_true rfl) ⟨Nat.zero_le _, Nat.zero_le _⟩ dX12_rules_183 (fun v11 Z12 I13 L14 q15 => ?_)
      obtain ⟨rfl, r17, rfl, h⟩ := q15
      show jJ G 7 186 [(0, .ref v0), (1, .int v1), (2, .int v2), (3, .int v3), (4, .int v4)] [.int r17, .int r10] Z I13 L14 0 0
      refine j_icmp_ge E 192 dX12_rules_186 (by decide) (fun c18 => ?_) (fun c18 => ?_)
      · have h := h.1 c18
        refine j_sub [0, 1, 2, 3, 4] rfl ?_
        exact m_X12_rules_b192 E hZ K40 hK40 v0 v1 v2 v3 v4 I13 L14 kv0 h
      · have h := h.2 c18
        refine j_sub [0, 1, 2, 4] rfl ?_
        exact m_X12_rules_b189 E hZ K40 hK40 v0 v1 v2 v4 I13 L14 kv0 h
  · have h := h.2 c2
    refine j_goto E 192 dX12_rules_170 (by decide) ?_
    refine j_sub [0, 1, 2, 3, 4] rfl ?_
    exact m_X12_rules_b192 E hZ K40 hK40 v0 v1 v2 v3 v4 I L kv0 h
set_option maxRecDepth 100000 in
def f_X12_rules_b140 (K40 : Nat → Int32 → Int32 → Int32 → Int32 → jI → jL → Prop) (K105 : Nat → Int32 → Int32 → Int32 → Int32 → Int32 → Int32 → jI → jL → Prop) (Z : jZ) (Q : Int32 → jI → jL → Prop) (v0 : Nat) (v1 : Int32) (v2 : Int32) (v3 : Int32) (v4 : Int32) (v6 : Int32) (s0 : Int32) (s1 : Int32) (I : jI) (L : jL) : Prop := (∀ x19 : Int32, x19 = (s0 + s1) → (∀ x20 : Int32, x20 = v6 + 1 → K105 v0 v1 v2 v3 v4 x19 x20 I L))
set_option maxHeartbeats 4000000 in
set_option maxRecDepth 100000 in
theorem m_X12_rules_b140 {G : jG} {Z : jZ} {Q : Int32 → jI → jL → Prop} (E : jE G cX12_rules RX12 w_X12_rules 7 (some .int) { frames := 2, cells := 0, slots := 0, locals := 43 } (rtI Z Q)) (hZ : SH Z) (K40 : Nat → Int32 → Int32 → Int32 → Int32 → jI → jL → Prop) (hK40 : ∀ (v0 : Nat) (v1 : Int32) (v2 : Int32) (v3 : Int32) (v4 : Int32) (I : jI) (L : jL), jk Z v0 12 → K40 v0 v1 v2 v3 v4 I L → jJ G 7 40 [(0, .ref v0), (1, .int v1), (2, .int v2), (3, .int v3), (4, .int v4)] [] Z I L 0 0) (K105 : Nat → Int32 → Int32 → Int32 → Int32 → Int32 → Int32 → jI → jL → Prop) (hK105 : ∀ (v0 : Nat) (v1 : Int32) (v2 : Int32) (v3 : Int32) (v4 : Int32) (v5 : Int32) (v6 : Int32) (I : jI) (L : jL), jk Z v0 12 → K105 v0 v1 v2 v3 v4 v5 v6 I L → jJ G 7 105 [(0, .ref v0), (1, .int v1), (2, .int v2), (3, .int v3), (4, .int v4), (5, .int v5), (6, .int v6)] [] Z I L 0 0) (v0 : Nat) (v1 : Int32) (v2 : Int32) (v3 : Int32) (v4 : Int32) (v6 : Int32) (s0 : Int32) (s1 : Int32) (I : jI) (L : jL) (kv0 : jk Z v0 12) (h : f_X12_rules_b140 K40 K105 Z Q v0 v1 v2 v3 v4 v6 s0 s1 I L) : jJ G 7 140 [(0, .ref v0), (1, .int v1), (2, .int v2), (3, .int v3), (4, .int v4), (6, .int v6)] [.int s1, .int s0] Z I L 0 0 := by
  refine j_iadd E dX12_rules_140 ?_
  refine j_topi (fun x19 ex19 => ?_)
  have h := h x19 ex19
  refine j_istore E 5 [(5, .int x19), (0, .ref v0), (1, .int v1), (2, .int v2), (3, .int v3), (4, .int v4), (6, .int v6)] dX12_rules_141 (by decide) rfl ?_
  obtain ⟨x20, ex20⟩ : ∃ y : Int32, y = v6 + 1 := ⟨_, rfl⟩
  have h := h x20 ex20
  refine j_iinc E x20 [(6, .int x20), (5, .int x19), (0, .ref v0), (1, .int v1), (2, .int v2), (3, .int v3), (4, .int v4)] dX12_rules_143 6 rfl (by rw [ex20]; rfl) (by decide) rfl ?_
  refine j_goto E 105 dX12_rules_146 (by decide) ?_
  refine j_sub [2, 3, 4, 5, 6, 1, 0] rfl ?_
  exact hK105 v0 v1 v2 v3 v4 x19 x20 I L kv0 h
set_option maxRecDepth 100000 in
def f_X12_rules_b139 (K40 : Nat → Int32 → Int32 → Int32 → Int32 → jI → jL → Prop) (K105 : Nat → Int32 → Int32 → Int32 → Int32 → Int32 → Int32 → jI → jL → Prop) (Z : jZ) (Q : Int32 → jI → jL → Prop) (v0 : Nat) (v1 : Int32) (v2 : Int32) (v3 : Int32) (v4 : Int32) (v6 : Int32) (s0 : Int32) (I : jI) (L : jL) : Prop := f_X12_rules_b140 K40 K105 Z Q v0 v1 v2 v3 v4 v6 s0 (0 : Int32) I L
set_option maxHeartbeats 4000000 in
set_option maxRecDepth 100000 in
theorem m_X12_rules_b139 {G : jG} {Z : jZ} {Q : Int32 → jI → jL → Prop} (E : jE G cX12_rules RX12 w_X12_rules 7 (some .int) { frames := 2, cells := 0, slots := 0, locals := 43 } (rtI Z Q)) (hZ : SH Z) (K40 : Nat → Int32 → Int32 → Int32 → Int32 → jI → jL → Prop) (hK40 : ∀ (v0 : Nat) (v1 : Int32) (v2 : Int32) (v3 : Int32) (v4 : Int32) (I : jI) (L : jL), jk Z v0 12 → K40 v0 v1 v2 v3 v4 I L → jJ G 7 40 [(0, .ref v0), (1, .int v1), (2, .int v2), (3, .int v3), (4, .int v4)] [] Z I L 0 0) (K105 : Nat → Int32 → Int32 → Int32 → Int32 → Int32 → Int32 → jI → jL → Prop) (hK105 : ∀ (v0 : Nat) (v1 : Int32) (v2 : Int32) (v3 : Int32) (v4 : Int32) (v5 : Int32) (v6 : Int32) (I : jI) (L : jL), jk Z v0 12 → K105 v0 v1 v2 v3 v4 v5 v6 I L → jJ G 7 105 [(0, .ref v0), (1, .int v1), (2, .int v2), (3, .int v3), (4, .int v4), (5, .int v5), (6, .int v6)] [] Z I L 0 0) (v0 : Nat) (v1 : Int32) (v2 : Int32) (v3 : Int32) (v4 : Int32) (v6 : Int32) (s0 : Int32) (I : jI) (L : jL) (kv0 : jk Z v0 12) (h : f_X12_rules_b139 K40 K105 Z Q v0 v1 v2 v3 v4 v6 s0 I L) : jJ G 7 139 [(0, .ref v0), (1, .int v1), (2, .int v2), (3, .int v3), (4, .int v4), (6, .int v6)] [.int s0] Z I L 0 0 := by
  refine j_iconst E (v := 0) dX12_rules_139 (by decide) ?_
  refine j_sub [0, 1, 2, 3, 4, 5] rfl ?_
  exact m_X12_rules_b140 E hZ K40 hK40 K105 hK105 v0 v1 v2 v3 v4 v6 s0 (0 : Int32) I L kv0 h
set_option maxRecDepth 100000 in
def f_X12_rules_L105 (K40 : Nat → Int32 → Int32 → Int32 → Int32 → jI → jL → Prop) (Z : jZ) (Q : Int32 → jI → jL → Prop) : Nat → Nat → Int32 → Int32 → Int32 → Int32 → Int32 → Int32 → jI → jL → Prop
  | 0 => fun _ _ _ _ _ _ _ _ _ => False
  | n + 1 => fun v0 v1 v2 v3 v4 v5 v6 I L => (((I v0 0) ≤ v6 → ((¬ v1 = 0 → f_X12_rules_b167 K40 Z Q v0 v1 v2 v3 v4 ((2 : Int32) * v5) (I v0 0) I L) ∧ (v1 = 0 → f_X12_rules_b167 K40 Z Q v0 v1 v2 v3 v4 ((2 : Int32) * v5) (720 : Int32) I L))) ∧ (¬ ((I v0 0) ≤ v6) → ((¬ v1 = (1 : Int32) → f_X12_rules_b139 K40 (f_X12_rules_L105 K40 Z Q n) Z Q v0 v1 v2 v3 v4 v6 v5 I L) ∧ (v1 = (1 : Int32) → (f_X12_mainOf v0 v6 Z I L (fun r30 I26 L27 => (f_X12_has v4 r30 Z I26 L27 (fun r37 I33 L34 => ((r37 = 0 → f_X12_rules_b139 K40 (f_X12_rules_L105 K40 Z Q n) Z Q v0 v1 v2 v3 v4 v6 v5 I33 L34) ∧ (¬ (r37 = 0) → f_X12_rules_b140 K40 (f_X12_rules_L105 K40 Z Q n) Z Q v0 v1 v2 v3 v4 v6 v5 (1 : Int32) I33 L34))))))))))
set_option maxHeartbeats 4000000 in
set_option maxRecDepth 100000 in
theorem m_X12_rules_L105 {G : jG} {Z : jZ} {Q : Int32 → jI → jL → Prop} (E : jE G cX12_rules RX12 w_X12_rules 7 (some .int) { frames := 2, cells := 0, slots := 0, locals := 43 } (rtI Z Q)) (hZ : SH Z) (K40 : Nat → Int32 → Int32 → Int32 → Int32 → jI → jL → Prop) (hK40 : ∀ (v0 : Nat) (v1 : Int32) (v2 : Int32) (v3 : Int32) (v4 : Int32) (I : jI) (L : jL), jk Z v0 12 → K40 v0 v1 v2 v3 v4 I L → jJ G 7 40 [(0, .ref v0), (1, .int v1), (2, .int v2), (3, .int v3), (4, .int v4)] [] Z I L 0 0) : ∀ (n : Nat) (v0 : Nat) (v1 : Int32) (v2 : Int32) (v3 : Int32) (v4 : Int32) (v5 : Int32) (v6 : Int32) (I : jI) (L : jL), jk Z v0 12 → f_X12_rules_L105 K40 Z Q n v0 v1 v2 v3 v4 v5 v6 I L → jJ G 7 105 [(0, .ref v0), (1, .int v1), (2, .int v2), (3, .int v3), (4, .int v4), (5, .int v5), (6, .int v6)] [] Z I L 0 0 := by
  intro n
  induction n with
  | zero => intro v0 v1 v2 v3 v4 v5 v6 I L _ h; exact h.elim
  | succ n ih =>
    intro v0 v1 v2 v3 v4 v5 v6 I L kv0 h
    have h : (((I v0 0) ≤ v6 → ((¬ v1 = 0 → f_X12_rules_b167 K40 Z Q v0 v1 v2 v3 v4 ((2 : Int32) * v5) (I v0 0) I L) ∧ (v1 = 0 → f_X12_rules_b167 K40 Z Q v0 v1 v2 v3 v4 ((2 : Int32) * v5) (720 : Int32) I L))) ∧ (¬ ((I v0 0) ≤ v6) → ((¬ v1 = (1 : Int32) → f_X12_rules_b139 K40 (f_X12_rules_L105 K40 Z Q n) Z Q v0 v1 v2 v3 v4 v6 v5 I L) ∧ (v1 = (1 : Int32) → (f_X12_mainOf v0 v6 Z I L (fun r30 I26 L27 => (f_X12_has v4 r30 Z I26 L27 (fun r37 I33 L34 => ((r37 = 0 → f_X12_rules_b139 K40 (f_X12_rules_L105 K40 Z Q n) Z Q v0 v1 v2 v3 v4 v6 v5 I33 L34) ∧ (¬ (r37 = 0) → f_X12_rules_b140 K40 (f_X12_rules_L105 K40 Z Q n) Z Q v0 v1 v2 v3 v4 v6 v5 (1 : Int32) I33 L34)))))))))) := h
    obtain ⟨K105, eK105⟩ : ∃ K : Nat → Int32 → Int32 → Int32 → Int32 → Int32 → Int32 → jI → jL → Prop, K = f_X12_rules_L105 K40 Z Q n := ⟨_, rfl⟩
    have hK105 := ih
    clear eK105 K105
    generalize f_X12_rules_L105 K40 Z Q n = K105 at hK105 h
    refine j_iload E dX12_rules_105 6 rfl ?_
    refine j_aload_n E dX12_rules_107 0 rfl ?_
    refine j_geti E 12 0 rfl rfl (by decide) (by decide) (iw iT_12) rfl rfl (tw W_693) kv0 dX12_rules_108 ?_
    refine j_icmp_ge E 149 dX12_rules_111 (by decide) (fun c21 => ?_) (fun c21 => ?_)
    · have h := h.1 c21
      refine j_iconst E (v := 2) dX12_rules_149 (by decide) ?_
      refine j_iload E dX12_rules_150 5 rfl ?_
      refine j_imul E dX12_rules_152 ?_
      refine j_iload_n E dX12_rules_153 1 rfl ?_
      refine j_if_ne E 163 dX12_rules_154 (by decide) (fun c22 => ?_) (fun c22 => ?_)
      · have h := h.1 c22
        refine j_aload_n E dX12_rules_163 0 rfl ?_
        refine j_geti E 12 0 rfl rfl (by decide) (by decide) (iw iT_12) rfl rfl (tw W_693) kv0 dX12_rules_164 ?_
        refine j_sub [0, 1, 2, 3, 4] rfl ?_
        exact m_X12_rules_b167 E hZ K40 hK40 v0 v1 v2 v3 v4 ((2 : Int32) * v5) (I v0 0) I L kv0 h
      · have h := h.2 c22
        refine j_sipush E (v := 720) dX12_rules_157 (by decide) ?_
        refine j_goto E 167 dX12_rules_160 (by decide) ?_
        refine j_sub [0, 1, 2, 3, 4] rfl ?_
        exact m_X12_rules_b167 E hZ K40 hK40 v0 v1 v2 v3 v4 ((2 : Int32) * v5) (720 : Int32) I L kv0 h
    · have h := h.2 c21
      refine j_iload E dX12_rules_114 5 rfl ?_
      refine j_iload_n E dX12_rules_116 1 rfl ?_
      refine j_iconst E (v := 1) dX12_rules_117 (by decide) ?_
      refine j_icmp_ne E 139 dX12_rules_118 (by decide) (fun c23 => ?_) (fun c23 => ?_)
      · have h := h.1 c23
        refine j_sub [0, 1, 2, 3, 4, 6] rfl ?_
        exact m_X12_rules_b139 E hZ K40 hK40 K105 hK105 v0 v1 v2 v3 v4 v6 v5 I L kv0 h
      · have h := h.2 c23
        refine j_iload E dX12_rules_121 4 rfl ?_
        refine j_aload_n E dX12_rules_123 0 rfl ?_
        refine j_iload E dX12_rules_124 6 rfl ?_
        refine j_callV E [.int v6] [.int v4, .int v5] (c_X12_mainOf (gL G) (gD G) (gY G) v0 v6 Z I L _ hZ kv0 h) (gwV W_757 W_758 W_759 W_695 W_756) rfl ⟨rfl, fy_X12_mainOf⟩ ⟨by decide, by decide⟩ (c := 12) rfl (by decide) kv0 rfl rfl (Nat.le_of_ble_eq_true rfl) ⟨Nat.zero_le _, Nat.zero_le _⟩ dX12_rules_126 (fun v24 Z25 I26 L27 q28 => ?_)
        obtain ⟨rfl, r30, rfl, h⟩ := q28
        show jJ G 7 129 [(0, .ref v0), (1, .int v1), (2, .int v2), (3, .int v3), (4, .int v4), (5, .int v5), (6, .int v6)] [.int r30, .int v4, .int v5] Z I26 L27 0 0
        refine j_callS E [.int v4, .int r30] [.int v5] (c_X12_has (gL G) (gD G) (gY G) v4 r30 Z I26 L27 _ hZ  h) (gwS W_840 W_841 W_695 W_839) rfl fy_X12_has ⟨by decide, by decide⟩ rfl rfl (Nat.le_of_ble_eq_true rfl) ⟨Nat.zero_le _, Nat.zero_le _⟩ dX12_rules_129 (fun v31 Z32 I33 L34 q35 => ?_)
        obtain ⟨rfl, r37, rfl, zr37, h⟩ := q35
        show jJ G 7 132 [(0, .ref v0), (1, .int v1), (2, .int v2), (3, .int v3), (4, .int v4), (5, .int v5), (6, .int v6)] [.int r37, .int v5] Z I33 L34 0 0
        refine j_if_eq E 139 dX12_rules_132 (by decide) (fun c38 => ?_) (fun c38 => ?_)
        · have h := h.1 c38
          refine j_sub [0, 1, 2, 3, 4, 6] rfl ?_
          exact m_X12_rules_b139 E hZ K40 hK40 K105 hK105 v0 v1 v2 v3 v4 v6 v5 I33 L34 kv0 h
        · have h := h.2 c38
          refine j_iconst E (v := 1) dX12_rules_135 (by decide) ?_
          refine j_goto E 140 dX12_rules_136 (by decide) ?_
          refine j_sub [0, 1, 2, 3, 4, 6] rfl ?_
          exact m_X12_rules_b140 E hZ K40 hK40 K105 hK105 v0 v1 v2 v3 v4 v6 v5 (1 : Int32) I33 L34 kv0 h
set_option maxRecDepth 100000 in
def f_X12_rules_b93 (K40 : Nat → Int32 → Int32 → Int32 → Int32 → jI → jL → Prop) (K54 : Nat → Int32 → Int32 → Int32 → Int32 → Int32 → Int32 → jI → jL → Prop) (Z : jZ) (Q : Int32 → jI → jL → Prop) (v0 : Nat) (v1 : Int32) (v2 : Int32) (v3 : Int32) (v4 : Int32) (v6 : Int32) (s0 : Int32) (s1 : Int32) (I : jI) (L : jL) : Prop := (∀ x39 : Int32, x39 = (s0 + s1) → (∀ x40 : Int32, x40 = v6 + 1 → K54 v0 v1 v2 v3 v4 x39 x40 I L))
set_option maxHeartbeats 4000000 in
set_option maxRecDepth 100000 in
theorem m_X12_rules_b93 {G : jG} {Z : jZ} {Q : Int32 → jI → jL → Prop} (E : jE G cX12_rules RX12 w_X12_rules 7 (some .int) { frames := 2, cells := 0, slots := 0, locals := 43 } (rtI Z Q)) (hZ : SH Z) (K40 : Nat → Int32 → Int32 → Int32 → Int32 → jI → jL → Prop) (hK40 : ∀ (v0 : Nat) (v1 : Int32) (v2 : Int32) (v3 : Int32) (v4 : Int32) (I : jI) (L : jL), jk Z v0 12 → K40 v0 v1 v2 v3 v4 I L → jJ G 7 40 [(0, .ref v0), (1, .int v1), (2, .int v2), (3, .int v3), (4, .int v4)] [] Z I L 0 0) (K54 : Nat → Int32 → Int32 → Int32 → Int32 → Int32 → Int32 → jI → jL → Prop) (hK54 : ∀ (v0 : Nat) (v1 : Int32) (v2 : Int32) (v3 : Int32) (v4 : Int32) (v5 : Int32) (v6 : Int32) (I : jI) (L : jL), jk Z v0 12 → K54 v0 v1 v2 v3 v4 v5 v6 I L → jJ G 7 54 [(0, .ref v0), (1, .int v1), (2, .int v2), (3, .int v3), (4, .int v4), (5, .int v5), (6, .int v6)] [] Z I L 0 0) (v0 : Nat) (v1 : Int32) (v2 : Int32) (v3 : Int32) (v4 : Int32) (v6 : Int32) (s0 : Int32) (s1 : Int32) (I : jI) (L : jL) (kv0 : jk Z v0 12) (h : f_X12_rules_b93 K40 K54 Z Q v0 v1 v2 v3 v4 v6 s0 s1 I L) : jJ G 7 93 [(0, .ref v0), (1, .int v1), (2, .int v2), (3, .int v3), (4, .int v4), (6, .int v6)] [.int s1, .int s0] Z I L 0 0 := by
  refine j_iadd E dX12_rules_93 ?_
  refine j_topi (fun x39 ex39 => ?_)
  have h := h x39 ex39
  refine j_istore E 5 [(5, .int x39), (0, .ref v0), (1, .int v1), (2, .int v2), (3, .int v3), (4, .int v4), (6, .int v6)] dX12_rules_94 (by decide) rfl ?_
  obtain ⟨x40, ex40⟩ : ∃ y : Int32, y = v6 + 1 := ⟨_, rfl⟩
  have h := h x40 ex40
  refine j_iinc E x40 [(6, .int x40), (5, .int x39), (0, .ref v0), (1, .int v1), (2, .int v2), (3, .int v3), (4, .int v4)] dX12_rules_96 6 rfl (by rw [ex40]; rfl) (by decide) rfl ?_
  refine j_goto E 54 dX12_rules_99 (by decide) ?_
  refine j_sub [2, 3, 4, 5, 6, 1, 0] rfl ?_
  exact hK54 v0 v1 v2 v3 v4 x39 x40 I L kv0 h
set_option maxRecDepth 100000 in
def f_X12_rules_b92 (K40 : Nat → Int32 → Int32 → Int32 → Int32 → jI → jL → Prop) (K54 : Nat → Int32 → Int32 → Int32 → Int32 → Int32 → Int32 → jI → jL → Prop) (Z : jZ) (Q : Int32 → jI → jL → Prop) (v0 : Nat) (v1 : Int32) (v2 : Int32) (v3 : Int32) (v4 : Int32) (v6 : Int32) (s0 : Int32) (I : jI) (L : jL) : Prop := f_X12_rules_b93 K40 K54 Z Q v0 v1 v2 v3 v4 v6 s0 (0 : Int32) I L
set_option maxHeartbeats 4000000 in
set_option maxRecDepth 100000 in
theorem m_X12_rules_b92 {G : jG} {Z : jZ} {Q : Int32 → jI → jL → Prop} (E : jE G cX12_rules RX12 w_X12_rules 7 (some .int) { frames := 2, cells := 0, slots := 0, locals := 43 } (rtI Z Q)) (hZ : SH Z) (K40 : Nat → Int32 → Int32 → Int32 → Int32 → jI → jL → Prop) (hK40 : ∀ (v0 : Nat) (v1 : Int32) (v2 : Int32) (v3 : Int32) (v4 : Int32) (I : jI) (L : jL), jk Z v0 12 → K40 v0 v1 v2 v3 v4 I L → jJ G 7 40 [(0, .ref v0), (1, .int v1), (2, .int v2), (3, .int v3), (4, .int v4)] [] Z I L 0 0) (K54 : Nat → Int32 → Int32 → Int32 → Int32 → Int32 → Int32 → jI → jL → Prop) (hK54 : ∀ (v0 : Nat) (v1 : Int32) (v2 : Int32) (v3 : Int32) (v4 : Int32) (v5 : Int32) (v6 : Int32) (I : jI) (L : jL), jk Z v0 12 → K54 v0 v1 v2 v3 v4 v5 v6 I L → jJ G 7 54 [(0, .ref v0), (1, .int v1), (2, .int v2), (3, .int v3), (4, .int v4), (5, .int v5), (6, .int v6)] [] Z I L 0 0) (v0 : Nat) (v1 : Int32) (v2 : Int32) (v3 : Int32) (v4 : Int32) (v6 : Int32) (s0 : Int32) (I : jI) (L : jL) (kv0 : jk Z v0 12) (h : f_X12_rules_b92 K40 K54 Z Q v0 v1 v2 v3 v4 v6 s0 I L) : jJ G 7 92 [(0, .ref v0), (1, .int v1), (2, .int v2), (3, .int v3), (4, .int v4), (6, .int v6)] [.int s0] Z I L 0 0 := by
  refine j_iconst E (v := 0) dX12_rules_92 (by decide) ?_
  refine j_sub [0, 1, 2, 3, 4, 5] rfl ?_
  exact m_X12_rules_b93 E hZ K40 hK40 K54 hK54 v0 v1 v2 v3 v4 v6 s0 (0 : Int32) I L kv0 h
set_option maxRecDepth 100000 in
def f_X12_rules_L54 (K40 : Nat → Int32 → Int32 → Int32 → Int32 → jI → jL → Prop) (Z : jZ) (Q : Int32 → jI → jL → Prop) : Nat → Nat → Int32 → Int32 → Int32 → Int32 → Int32 → Int32 → jI → jL → Prop
  | 0 => fun _ _ _ _ _ _ _ _ _ => False
  | n + 1 => fun v0 v1 v2 v3 v4 v5 v6 I L => (((8 : Int32) ≤ v6 → (∃ m105 : Nat, f_X12_rules_L105 K40 Z Q m105 v0 v1 v2 v3 v4 v5 (0 : Int32) I L)) ∧ (¬ ((8 : Int32) ≤ v6) → ((¬ v1 = 0 → f_X12_rules_b92 K40 (f_X12_rules_L54 K40 Z Q n) Z Q v0 v1 v2 v3 v4 v6 v5 I L) ∧ (v1 = 0 → (f_X12_has v4 v6 Z I L (fun r50 I46 L47 => ((r50 = 0 → f_X12_rules_b92 K40 (f_X12_rules_L54 K40 Z Q n) Z Q v0 v1 v2 v3 v4 v6 v5 I46 L47) ∧ (¬ (r50 = 0) → (∀ b52 : Nat, jr Z v0 5 = some b52 → (vp_in (((8 : Int32) * v2) + v6) 192 ∧ f_X12_rules_b93 K40 (f_X12_rules_L54 K40 Z Q n) Z Q v0 v1 v2 v3 v4 v6 v5 (I46 b52 (((8 : Int32) * v2) + v6).toNatClampNeg) I46 L47))))))))))
set_option maxHeartbeats 4000000 in
set_option maxRecDepth 100000 in
theorem m_X12_rules_L54 {G : jG} {Z : jZ} {Q : Int32 → jI → jL → Prop} (E : jE G cX12_rules RX12 w_X12_rules 7 (some .int) { frames := 2, cells := 0, slots := 0, locals := 43 } (rtI Z Q)) (hZ : SH Z) (K40 : Nat → Int32 → Int32 → Int32 → Int32 → jI → jL → Prop) (hK40 : ∀ (v0 : Nat) (v1 : Int32) (v2 : Int32) (v3 : Int32) (v4 : Int32) (I : jI) (L : jL), jk Z v0 12 → K40 v0 v1 v2 v3 v4 I L → jJ G 7 40 [(0, .ref v0), (1, .int v1), (2, .int v2), (3, .int v3), (4, .int v4)] [] Z I L 0 0) : ∀ (n : Nat) (v0 : Nat) (v1 : Int32) (v2 : Int32) (v3 : Int32) (v4 : Int32) (v5 : Int32) (v6 : Int32) (I : jI) (L : jL), jk Z v0 12 → f_X12_rules_L54 K40 Z Q n v0 v1 v2 v3 v4 v5 v6 I L → jJ G 7 54 [(0, .ref v0), (1, .int v1), (2, .int v2), (3, .int v3), (4, .int v4), (5, .int v5), (6, .int v6)] [] Z I L 0 0 := by
  intro n
  induction n with
  | zero => intro v0 v1 v2 v3 v4 v5 v6 I L _ h; exact h.elim
  | succ n ih =>
    intro v0 v1 v2 v3 v4 v5 v6 I L kv0 h
    have h : (((8 : Int32) ≤ v6 → (∃ m105 : Nat, f_X12_rules_L105 K40 Z Q m105 v0 v1 v2 v3 v4 v5 (0 : Int32) I L)) ∧ (¬ ((8 : Int32) ≤ v6) → ((¬ v1 = 0 → f_X12_rules_b92 K40 (f_X12_rules_L54 K40 Z Q n) Z Q v0 v1 v2 v3 v4 v6 v5 I L) ∧ (v1 = 0 → (f_X12_has v4 v6 Z I L (fun r50 I46 L47 => ((r50 = 0 → f_X12_rules_b92 K40 (f_X12_rules_L54 K40 Z Q n) Z Q v0 v1 v2 v3 v4 v6 v5 I46 L47) ∧ (¬ (r50 = 0) → (∀ b52 : Nat, jr Z v0 5 = some b52 → (vp_in (((8 : Int32) * v2) + v6) 192 ∧ f_X12_rules_b93 K40 (f_X12_rules_L54 K40 Z Q n) Z Q v0 v1 v2 v3 v4 v6 v5 (I46 b52 (((8 : Int32) * v2) + v6).toNatClampNeg) I46 L47)))))))))) := h
    obtain ⟨K54, eK54⟩ : ∃ K : Nat → Int32 → Int32 → Int32 → Int32 → Int32 → Int32 → jI → jL → Prop, K = f_X12_rules_L54 K40 Z Q n := ⟨_, rfl⟩
    have hK54 := ih
    clear eK54 K54
    generalize f_X12_rules_L54 K40 Z Q n = K54 at hK54 h
    refine j_iload E dX12_rules_54 6 rfl ?_
    refine j_bipush E (v := 8) dX12_rules_56 (by decide) ?_
    refine j_icmp_ge E 102 dX12_rules_58 (by decide) (fun c41 => ?_) (fun c41 => ?_)
    · have h := h.1 c41
      refine j_iconst E (v := 0) dX12_rules_102 (by decide) ?_
      refine j_istore E 6 [(6, .int (0 : Int32)), (0, .ref v0), (1, .int v1), (2, .int v2), (3, .int v3), (4, .int v4), (5, .int v5)] dX12_rules_103 (by decide) rfl ?_
      obtain ⟨n42, h⟩ := h
      refine j_sub [1, 2, 3, 4, 5, 6, 0] rfl ?_
      exact m_X12_rules_L105 E hZ K40 hK40 n42 v0 v1 v2 v3 v4 v5 (0 : Int32) I L kv0 h
    · have h := h.2 c41
      refine j_iload E dX12_rules_61 5 rfl ?_
      refine j_iload_n E dX12_rules_63 1 rfl ?_
      refine j_if_ne E 92 dX12_rules_64 (by decide) (fun c43 => ?_) (fun c43 => ?_)
      · have h := h.1 c43
        refine j_sub [0, 1, 2, 3, 4, 6] rfl ?_
        exact m_X12_rules_b92 E hZ K40 hK40 K54 hK54 v0 v1 v2 v3 v4 v6 v5 I L kv0 h
      · have h := h.2 c43
        refine j_iload E dX12_rules_67 4 rfl ?_
        refine j_iload E dX12_rules_69 6 rfl ?_
        refine j_callS E [.int v4, .int v6] [.int v5] (c_X12_has (gL G) (gD G) (gY G) v4 v6 Z I L _ hZ  h) (gwS W_840 W_841 W_695 W_839) rfl fy_X12_has ⟨by decide, by decide⟩ rfl rfl (Nat.le_of_ble_eq_true rfl) ⟨Nat.zero_le _, Nat.zero_le _⟩ dX12_rules_71 (fun v44 Z45 I46 L47 q48 => ?_)
        obtain ⟨rfl, r50, rfl, zr50, h⟩ := q48
        show jJ G 7 74 [(0, .ref v0), (1, .int v1), (2, .int v2), (3, .int v3), (4, .int v4), (5, .int v5), (6, .int v6)] [.int r50, .int v5] Z I46 L47 0 0
        refine j_if_eq E 92 dX12_rules_74 (by decide) (fun c51 => ?_) (fun c51 => ?_)
        · have h := h.1 c51
          refine j_sub [0, 1, 2, 3, 4, 6] rfl ?_
          exact m_X12_rules_b92 E hZ K40 hK40 K54 hK54 v0 v1 v2 v3 v4 v6 v5 I46 L47 kv0 h
        · have h := h.2 c51
          refine j_aload_n E dX12_rules_77 0 rfl ?_
          obtain ⟨b52, eb52, kb52, lb52⟩ := sh_f hZ kv0 (j := 5) (k := 14) (m := 192) rfl
          have h := h b52 eb52
          refine j_getr E 12 5 rfl rfl (by decide) (by decide) (iw iT_12) rfl rfl (tw W_699) kv0 eb52 dX12_rules_78 ?_
          refine j_bipush E (v := 8) dX12_rules_81 (by decide) ?_
          refine j_iload_n E dX12_rules_83 2 rfl ?_
          refine j_imul E dX12_rules_84 ?_
          refine j_iload E dX12_rules_85 6 rfl ?_
          refine j_iadd E dX12_rules_87 ?_
          obtain ⟨o53, h⟩ := h
          refine j_iald E kb52 (by rw [lb52]; exact o53) dX12_rules_88 ?_
          refine j_goto E 93 dX12_rules_89 (by decide) ?_
          refine j_sub [0, 1, 2, 3, 4, 6] rfl ?_
          exact m_X12_rules_b93 E hZ K40 hK40 K54 hK54 v0 v1 v2 v3 v4 v6 v5 (I46 b52 (((8 : Int32) * v2) + v6).toNatClampNeg) I46 L47 kv0 h
set_option maxRecDepth 100000 in
def f_X12_rules_L40  (Z : jZ) (Q : Int32 → jI → jL → Prop) : Nat → Nat → Int32 → Int32 → Int32 → Int32 → jI → jL → Prop
  | 0 => fun _ _ _ _ _ _ _ => False
  | n + 1 => fun v0 v1 v2 v3 v4 I L => (((256 : Int32) ≤ v4 → (∀ I55 : jI, I55 = jpI I v0 21 (0 : Int32) → (f_X12_tell v0 (v3.toInt64) Z I55 L (fun I58 L59 => (f_J6_bitCount_0f7a4 v3 Z I58 L59 (fun r68 I64 L65 => Q r68 I64 L65)))))) ∧ (¬ ((256 : Int32) ≤ v4) → (∃ m54 : Nat, f_X12_rules_L54 (f_X12_rules_L40 Z Q n) Z Q m54 v0 v1 v2 v3 v4 (0 : Int32) (0 : Int32) I L)))
set_option maxHeartbeats 4000000 in
set_option maxRecDepth 100000 in
theorem m_X12_rules_L40 {G : jG} {Z : jZ} {Q : Int32 → jI → jL → Prop} (E : jE G cX12_rules RX12 w_X12_rules 7 (some .int) { frames := 2, cells := 0, slots := 0, locals := 43 } (rtI Z Q)) (hZ : SH Z)  : ∀ (n : Nat) (v0 : Nat) (v1 : Int32) (v2 : Int32) (v3 : Int32) (v4 : Int32) (I : jI) (L : jL), jk Z v0 12 → f_X12_rules_L40  Z Q n v0 v1 v2 v3 v4 I L → jJ G 7 40 [(0, .ref v0), (1, .int v1), (2, .int v2), (3, .int v3), (4, .int v4)] [] Z I L 0 0 := by
  intro n
  induction n with
  | zero => intro v0 v1 v2 v3 v4 I L _ h; exact h.elim
  | succ n ih =>
    intro v0 v1 v2 v3 v4 I L kv0 h
    have h : (((256 : Int32) ≤ v4 → (∀ I55 : jI, I55 = jpI I v0 21 (0 : Int32) → (f_X12_tell v0 (v3.toInt64) Z I55 L (fun I58 L59 => (f_J6_bitCount_0f7a4 v3 Z I58 L59 (fun r68 I64 L65 => Q r68 I64 L65)))))) ∧ (¬ ((256 : Int32) ≤ v4) → (∃ m54 : Nat, f_X12_rules_L54 (f_X12_rules_L40 Z Q n) Z Q m54 v0 v1 v2 v3 v4 (0 : Int32) (0 : Int32) I L))) := h
    obtain ⟨K40, eK40⟩ : ∃ K : Nat → Int32 → Int32 → Int32 → Int32 → jI → jL → Prop, K = f_X12_rules_L40  Z Q n := ⟨_, rfl⟩
    have hK40 := ih
    clear eK40 K40
    generalize f_X12_rules_L40  Z Q n = K40 at hK40 h
    refine j_iload E dX12_rules_40 4 rfl ?_
    refine j_sipush E (v := 256) dX12_rules_42 (by decide) ?_
    refine j_icmp_ge E 198 dX12_rules_45 (by decide) (fun c54 => ?_) (fun c54 => ?_)
    · have h := h.1 c54
      refine j_aload_n E dX12_rules_198 0 rfl ?_
      refine j_iconst E (v := 0) dX12_rules_199 (by decide) ?_
      refine j_puti E 12 21 rfl rfl (by decide) (by decide) (iw iT_12) tyX12_ok nmX12 rfl rfl (tw W_692) rfl rfl rfl kv0 dX12_rules_200 ?_
      refine j_nmI (fun I55 eI55 => ?_)
      have h := h I55 eI55
      refine j_aload_n E dX12_rules_203 0 rfl ?_
      refine j_iload_n E dX12_rules_204 3 rfl ?_
      refine j_i2l E dX12_rules_205 ?_
      refine j_callV E [.long (v3.toInt64)] [] (c_X12_tell (gL G) (gD G) (gY G) v0 (v3.toInt64) Z I55 L _ hZ kv0 h) (gwV W_820 W_821 W_822 W_695 W_819) rfl ⟨rfl, fy_X12_tell⟩ ⟨by decide, by decide⟩ (c := 12) rfl (by decide) kv0 rfl rfl (Nat.le_of_ble_eq_true rfl) ⟨Nat.zero_le _, Nat.zero_le _⟩ dX12_rules_206 (fun v56 Z57 I58 L59 q60 => ?_)
      obtain ⟨rfl, rfl, h⟩ := q60
      show jJ G 7 209 [(0, .ref v0), (1, .int v1), (2, .int v2), (3, .int v3), (4, .int v4)] [] Z I58 L59 0 0
      refine j_iload_n E dX12_rules_209 3 rfl ?_
      refine j_callS E [.int v3] [] (c_J6_bitCount_0f7a4 (gL G) (gD G) (gY G) v3 Z I58 L59 _ hZ  h) (gwS W_915 W_242 W_240 W_239) rfl fy_J6_bitCount_0f7a4 ⟨by decide, by decide⟩ rfl rfl (Nat.le_of_ble_eq_true rfl) ⟨Nat.zero_le _, Nat.zero_le _⟩ dX12_rules_210 (fun v62 Z63 I64 L65 q66 => ?_)
      obtain ⟨rfl, r68, rfl, h⟩ := q66
      show jJ G 7 213 [(0, .ref v0), (1, .int v1), (2, .int v2), (3, .int v3), (4, .int v4)] [.int r68] Z I64 L65 0 0
      exact j_ireturn E ⟨rfl, _, rfl, h⟩ (Nat.zero_le _) (Nat.zero_le _) dX12_rules_213
    · have h := h.2 c54
      refine j_iconst E (v := 0) dX12_rules_48 (by decide) ?_
      refine j_istore E 5 [(5, .int (0 : Int32)), (0, .ref v0), (1, .int v1), (2, .int v2), (3, .int v3), (4, .int v4)] dX12_rules_49 (by decide) rfl ?_
      refine j_iconst E (v := 0) dX12_rules_51 (by decide) ?_
      refine j_istore E 6 [(6, .int (0 : Int32)), (5, .int (0 : Int32)), (0, .ref v0), (1, .int v1), (2, .int v2), (3, .int v3), (4, .int v4)] dX12_rules_52 (by decide) rfl ?_
      obtain ⟨n69, h⟩ := h
      refine j_sub [2, 3, 4, 5, 6, 1, 0] rfl ?_
      exact m_X12_rules_L54 E hZ K40 hK40 n69 v0 v1 v2 v3 v4 (0 : Int32) (0 : Int32) I L kv0 h
set_option maxRecDepth 100000 in
def f_X12_rules_b35  (Z : jZ) (Q : Int32 → jI → jL → Prop) (v0 : Nat) (v1 : Int32) (v2 : Int32) (I : jI) (L : jL) : Prop := (∃ m40 : Nat, f_X12_rules_L40  Z Q m40 v0 v1 v2 (0 : Int32) (1 : Int32) I L)
set_option maxHeartbeats 4000000 in
set_option maxRecDepth 100000 in
theorem m_X12_rules_b35 {G : jG} {Z : jZ} {Q : Int32 → jI → jL → Prop} (E : jE G cX12_rules RX12 w_X12_rules 7 (some .int) { frames := 2, cells := 0, slots := 0, locals := 43 } (rtI Z Q)) (hZ : SH Z)  (v0 : Nat) (v1 : Int32) (v2 : Int32) (I : jI) (L : jL) (kv0 : jk Z v0 12) (h : f_X12_rules_b35  Z Q v0 v1 v2 I L) : jJ G 7 35 [(0, .ref v0), (1, .int v1), (2, .int v2)] [] Z I L 0 0 := by
  refine j_iconst E (v := 0) dX12_rules_35 (by decide) ?_
  refine j_istore_n E 3 [(3, .int (0 : Int32)), (0, .ref v0), (1, .int v1), (2, .int v2)] dX12_rules_36 rfl (by decide) rfl ?_
  refine j_iconst E (v := 1) dX12_rules_37 (by decide) ?_
  refine j_istore E 4 [(4, .int (1 : Int32)), (3, .int (0 : Int32)), (0, .ref v0), (1, .int v1), (2, .int v2)] dX12_rules_38 (by decide) rfl ?_
  obtain ⟨n70, h⟩ := h
  refine j_sub [2, 3, 4, 1, 0] rfl ?_
  exact m_X12_rules_L40 E hZ  n70 v0 v1 v2 (0 : Int32) (1 : Int32) I L kv0 h
set_option maxRecDepth 100000 in
def f_X12_rules (v0 : Nat) (v1 : Int32) (v2 : Int32) (Z : jZ) (I : jI) (L : jL) (Q : Int32 → jI → jL → Prop) : Prop := (∀ I71 : jI, I71 = jpI I v0 22 (0 : Int32) → (((I71 v0 0) = 0 → Q (-1 : Int32) I71 L) ∧ (¬ ((I71 v0 0) = 0) → (f_X12_in v1 (0 : Int32) (1 : Int32) Z I71 L (fun r79 I75 L76 => ((r79 = 0 → Q (-1 : Int32) I75 L76) ∧ (¬ (r79 = 0) → ((¬ v1 = 0 → f_X12_rules_b35  Z Q v0 v1 v2 I75 L76) ∧ (v1 = 0 → (f_X12_isStep v0 v2 Z I75 L76 (fun r88 I84 L85 => ((¬ r88 = 0 → f_X12_rules_b35  Z Q v0 v1 v2 I84 L85) ∧ (r88 = 0 → Q (-1 : Int32) I84 L85)))))))))))))
set_option maxHeartbeats 4000000 in
set_option maxRecDepth 100000 in
theorem c_X12_rules (l : Launch) (D : va_G) (cy : jC) (v0 : Nat) (v1 : Int32) (v2 : Int32) (Z : jZ) (I : jI) (L : jL) (Q : Int32 → jI → jL → Prop) (hZ : SH Z) (kv0 : jk Z v0 12) (h : f_X12_rules v0 v1 v2 Z I L Q) : jCt l yX12_rules w_X12_rules { frames := 2, cells := 0, slots := 0, locals := 43 } D cy [.ref v0, .int v1, .int v2] Z I L (rtI Z Q) := by
  refine jCt_of (cc := cX12_rules) (maxL := 7) (ret := (some .int)) (by decide +kernel) rfl (Nat.le_of_ble_eq_true rfl) ?_
  intro G eD eY eL E
  subst eD; subst eY; subst eL
  have E : jE G cX12_rules RX12 w_X12_rules 7 (some .int) { frames := 2, cells := 0, slots := 0, locals := 43 } (rtI Z Q) := E
  show jJ G 7 0 [(0, .ref v0), (1, .int v1), (2, .int v2)] [] Z I L 0 0
  refine j_aload_n E dX12_rules_0 0 rfl ?_
  refine j_iconst E (v := 0) dX12_rules_1 (by decide) ?_
  refine j_puti E 12 22 rfl rfl (by decide) (by decide) (iw iT_12) tyX12_ok nmX12 rfl rfl (tw W_690) rfl rfl rfl kv0 dX12_rules_2 ?_
  refine j_nmI (fun I71 eI71 => ?_)
  have h := h I71 eI71
  refine j_aload_n E dX12_rules_5 0 rfl ?_
  refine j_geti E 12 0 rfl rfl (by decide) (by decide) (iw iT_12) rfl rfl (tw W_693) kv0 dX12_rules_6 ?_
  refine j_if_eq E 33 dX12_rules_9 (by decide) (fun c72 => ?_) (fun c72 => ?_)
  · have h := h.1 c72
    refine j_iconst E (v := -1) dX12_rules_33 (by decide) ?_
    exact j_ireturn E ⟨rfl, _, rfl, h⟩ (Nat.zero_le _) (Nat.zero_le _) dX12_rules_34
  · have h := h.2 c72
    refine j_iload_n E dX12_rules_12 1 rfl ?_
    refine j_iconst E (v := 0) dX12_rules_13 (by decide) ?_
    refine j_iconst E (v := 1) dX12_rules_14 (by decide) ?_
    refine j_callS E [.int v1, .int (0 : Int32), .int (1 : Int32)] [] (c_X12_in (gL G) (gD G) (gY G) v1 (0 : Int32) (1 : Int32) Z I71 L _ hZ  h) (gwS W_696 W_697 W_695 W_694) rfl fy_X12_in ⟨by decide, by decide⟩ rfl rfl (Nat.le_of_ble_eq_true rfl) ⟨Nat.zero_le _, Nat.zero_le _⟩ dX12_rules_15 (fun v73 Z74 I75 L76 q77 => ?_)
    obtain ⟨rfl, r79, rfl, zr79, h⟩ := q77
    show jJ G 7 18 [(0, .ref v0), (1, .int v1), (2, .int v2)] [.int r79] Z I75 L76 0 0
    refine j_if_eq E 33 dX12_rules_18 (by decide) (fun c80 => ?_) (fun c80 => ?_)
    · have h := h.1 c80
      refine j_iconst E (v := -1) dX12_rules_33 (by decide) ?_
      exact j_ireturn E ⟨rfl, _, rfl, h⟩ (Nat.zero_le _) (Nat.zero_le _) dX12_rules_34
    · have h := h.2 c80
      refine j_iload_n E dX12_rules_21 1 rfl ?_
      refine j_if_ne E 35 dX12_rules_22 (by decide) (fun c81 => ?_) (fun c81 => ?_)
      · have h := h.1 c81
        refine j_sub [0, 1, 2] rfl ?_
        exact m_X12_rules_b35 E hZ  v0 v1 v2 I75 L76 kv0 h
      · have h := h.2 c81
        refine j_aload_n E dX12_rules_25 0 rfl ?_
        refine j_iload_n E dX12_rules_26 2 rfl ?_
        refine j_callV E [.int v2] [] (c_X12_isStep (gL G) (gD G) (gY G) v0 v2 Z I75 L76 _ hZ kv0 h) (gwV W_790 W_791 W_792 W_695 W_789) rfl ⟨rfl, fy_X12_isStep⟩ ⟨by decide, by decide⟩ (c := 12) rfl (by decide) kv0 rfl rfl (Nat.le_of_ble_eq_true rfl) ⟨Nat.zero_le _, Nat.zero_le _⟩ dX12_rules_27 (fun v82 Z83 I84 L85 q86 => ?_)
        obtain ⟨rfl, r88, rfl, zr88, h⟩ := q86
        show jJ G 7 30 [(0, .ref v0), (1, .int v1), (2, .int v2)] [.int r88] Z I84 L85 0 0
        refine j_if_ne E 35 dX12_rules_30 (by decide) (fun c89 => ?_) (fun c89 => ?_)
        · have h := h.1 c89
          refine j_sub [0, 1, 2] rfl ?_
          exact m_X12_rules_b35 E hZ  v0 v1 v2 I84 L85 kv0 h
        · have h := h.2 c89
          refine j_iconst E (v := -1) dX12_rules_33 (by decide) ?_
          exact j_ireturn E ⟨rfl, _, rfl, h⟩ (Nat.zero_le _) (Nat.zero_le _) dX12_rules_34
set_option maxRecDepth 100000 in
def f_X12_placeOf (v0 : Nat) (v1 : Int32) (Z : jZ) (I : jI) (L : jL) (Q : Int32 → jI → jL → Prop) : Prop := (∀ b1 : Nat, jr Z v0 57 = some b1 → (vp_in v1 6 ∧ ((¬ (I b1 v1.toNatClampNeg) = 0 → (∀ b4 : Nat, jr Z v0 55 = some b4 → (∀ b5 : Nat, jr Z v0 57 = some b5 → (vp_in v1 6 ∧ (vp_in ((((24 : Int32) * v1) + (I b5 v1.toNatClampNeg)) - (1 : Int32)) 144 ∧ Q (I b4 ((((24 : Int32) * v1) + (I b5 v1.toNatClampNeg)) - (1 : Int32)).toNatClampNeg) I L))))) ∧ ((I b1 v1.toNatClampNeg) = 0 → Q (-1 : Int32) I L))))
set_option maxHeartbeats 4000000 in
set_option maxRecDepth 100000 in
theorem c_X12_placeOf (l : Launch) (D : va_G) (cy : jC) (v0 : Nat) (v1 : Int32) (Z : jZ) (I : jI) (L : jL) (Q : Int32 → jI → jL → Prop) (hZ : SH Z) (kv0 : jk Z v0 12) (h : f_X12_placeOf v0 v1 Z I L Q) : jCt l yX12_placeOf w_X12_placeOf { frames := 0, cells := 0, slots := 0, locals := 0 } D cy [.ref v0, .int v1] Z I L (rtI Z Q) := by
  refine jCt_of (cc := cX12_placeOf) (maxL := 2) (ret := (some .int)) (by decide +kernel) rfl (Nat.le_of_ble_eq_true rfl) ?_
  intro G eD eY eL E
  subst eD; subst eY; subst eL
  have E : jE G cX12_placeOf RX12 w_X12_placeOf 2 (some .int) { frames := 0, cells := 0, slots := 0, locals := 0 } (rtI Z Q) := E
  show jJ G 2 0 [(0, .ref v0), (1, .int v1)] [] Z I L 0 0
  refine j_aload_n E dX12_placeOf_0 0 rfl ?_
  obtain ⟨b1, eb1, kb1, lb1⟩ := sh_f hZ kv0 (j := 57) (k := 14) (m := 6) rfl
  have h := h b1 eb1
  refine j_getr E 12 57 rfl rfl (by decide) (by decide) (iw iT_12) rfl rfl (tw W_916) kv0 eb1 dX12_placeOf_1 ?_
  refine j_iload_n E dX12_placeOf_4 1 rfl ?_
  obtain ⟨o2, h⟩ := h
  refine j_iald E kb1 (by rw [lb1]; exact o2) dX12_placeOf_5 ?_
  refine j_if_ne E 13 dX12_placeOf_6 (by decide) (fun c3 => ?_) (fun c3 => ?_)
  · have h := h.1 c3
    refine j_aload_n E dX12_placeOf_13 0 rfl ?_
    obtain ⟨b4, eb4, kb4, lb4⟩ := sh_f hZ kv0 (j := 55) (k := 14) (m := 144) rfl
    have h := h b4 eb4
    refine j_getr E 12 55 rfl rfl (by decide) (by decide) (iw iT_12) rfl rfl (tw W_917) kv0 eb4 dX12_placeOf_14 ?_
    refine j_bipush E (v := 24) dX12_placeOf_17 (by decide) ?_
    refine j_iload_n E dX12_placeOf_19 1 rfl ?_
    refine j_imul E dX12_placeOf_20 ?_
    refine j_aload_n E dX12_placeOf_21 0 rfl ?_
    obtain ⟨b5, eb5, kb5, lb5⟩ := sh_f hZ kv0 (j := 57) (k := 14) (m := 6) rfl
    have h := h b5 eb5
    refine j_getr E 12 57 rfl rfl (by decide) (by decide) (iw iT_12) rfl rfl (tw W_916) kv0 eb5 dX12_placeOf_22 ?_
    refine j_iload_n E dX12_placeOf_25 1 rfl ?_
    obtain ⟨o6, h⟩ := h
    refine j_iald E kb5 (by rw [lb5]; exact o6) dX12_placeOf_26 ?_
    refine j_iadd E dX12_placeOf_27 ?_
    refine j_iconst E (v := 1) dX12_placeOf_28 (by decide) ?_
    refine j_isub E dX12_placeOf_29 ?_
    obtain ⟨o7, h⟩ := h
    refine j_iald E kb4 (by rw [lb4]; exact o7) dX12_placeOf_30 ?_
    exact j_ireturn E ⟨rfl, _, rfl, h⟩ (Nat.zero_le _) (Nat.zero_le _) dX12_placeOf_31
  · have h := h.2 c3
    refine j_iconst E (v := -1) dX12_placeOf_9 (by decide) ?_
    refine j_goto E 31 dX12_placeOf_10 (by decide) ?_
    exact j_ireturn E ⟨rfl, _, rfl, h⟩ (Nat.zero_le _) (Nat.zero_le _) dX12_placeOf_31
set_option maxRecDepth 100000 in
def f_X12_onStep_b36 (K4 : Nat → Int32 → Int32 → Int32 → jI → jL → Prop) (Z : jZ) (Q : Int32 → jI → jL → Prop) (v0 : Nat) (v1 : Int32) (v3 : Int32) (s0 : Int32) (s1 : Int32) (I : jI) (L : jL) : Prop := (∀ x1 : Int32, x1 = (s0 + s1) → (∀ x2 : Int32, x2 = v3 + 1 → K4 v0 v1 x1 x2 I L))
set_option maxHeartbeats 4000000 in
set_option maxRecDepth 100000 in
theorem m_X12_onStep_b36 {G : jG} {Z : jZ} {Q : Int32 → jI → jL → Prop} (E : jE G cX12_onStep RX12 w_X12_onStep 4 (some .int) { frames := 1, cells := 0, slots := 0, locals := 21 } (rtI Z Q)) (hZ : SH Z) (K4 : Nat → Int32 → Int32 → Int32 → jI → jL → Prop) (hK4 : ∀ (v0 : Nat) (v1 : Int32) (v2 : Int32) (v3 : Int32) (I : jI) (L : jL), jk Z v0 12 → K4 v0 v1 v2 v3 I L → jJ G 4 4 [(0, .ref v0), (1, .int v1), (2, .int v2), (3, .int v3)] [] Z I L 0 0) (v0 : Nat) (v1 : Int32) (v3 : Int32) (s0 : Int32) (s1 : Int32) (I : jI) (L : jL) (kv0 : jk Z v0 12) (h : f_X12_onStep_b36 K4 Z Q v0 v1 v3 s0 s1 I L) : jJ G 4 36 [(0, .ref v0), (1, .int v1), (3, .int v3)] [.int s1, .int s0] Z I L 0 0 := by
  refine j_iadd E dX12_onStep_36 ?_
  refine j_topi (fun x1 ex1 => ?_)
  have h := h x1 ex1
  refine j_istore_n E 2 [(2, .int x1), (0, .ref v0), (1, .int v1), (3, .int v3)] dX12_onStep_37 rfl (by decide) rfl ?_
  obtain ⟨x2, ex2⟩ : ∃ y : Int32, y = v3 + 1 := ⟨_, rfl⟩
  have h := h x2 ex2
  refine j_iinc E x2 [(3, .int x2), (2, .int x1), (0, .ref v0), (1, .int v1)] dX12_onStep_38 3 rfl (by rw [ex2]; rfl) (by decide) rfl ?_
  refine j_goto E 4 dX12_onStep_41 (by decide) ?_
  refine j_sub [2, 3, 1, 0] rfl ?_
  exact hK4 v0 v1 x1 x2 I L kv0 h
set_option maxRecDepth 100000 in
def f_X12_onStep_b35 (K4 : Nat → Int32 → Int32 → Int32 → jI → jL → Prop) (Z : jZ) (Q : Int32 → jI → jL → Prop) (v0 : Nat) (v1 : Int32) (v3 : Int32) (s0 : Int32) (I : jI) (L : jL) : Prop := f_X12_onStep_b36 K4 Z Q v0 v1 v3 s0 (0 : Int32) I L
set_option maxHeartbeats 4000000 in
set_option maxRecDepth 100000 in
theorem m_X12_onStep_b35 {G : jG} {Z : jZ} {Q : Int32 → jI → jL → Prop} (E : jE G cX12_onStep RX12 w_X12_onStep 4 (some .int) { frames := 1, cells := 0, slots := 0, locals := 21 } (rtI Z Q)) (hZ : SH Z) (K4 : Nat → Int32 → Int32 → Int32 → jI → jL → Prop) (hK4 : ∀ (v0 : Nat) (v1 : Int32) (v2 : Int32) (v3 : Int32) (I : jI) (L : jL), jk Z v0 12 → K4 v0 v1 v2 v3 I L → jJ G 4 4 [(0, .ref v0), (1, .int v1), (2, .int v2), (3, .int v3)] [] Z I L 0 0) (v0 : Nat) (v1 : Int32) (v3 : Int32) (s0 : Int32) (I : jI) (L : jL) (kv0 : jk Z v0 12) (h : f_X12_onStep_b35 K4 Z Q v0 v1 v3 s0 I L) : jJ G 4 35 [(0, .ref v0), (1, .int v1), (3, .int v3)] [.int s0] Z I L 0 0 := by
  refine j_iconst E (v := 0) dX12_onStep_35 (by decide) ?_
  refine j_sub [0, 1, 2] rfl ?_
  exact m_X12_onStep_b36 E hZ K4 hK4 v0 v1 v3 s0 (0 : Int32) I L kv0 h
set_option maxRecDepth 100000 in
def f_X12_onStep_L4  (Z : jZ) (Q : Int32 → jI → jL → Prop) : Nat → Nat → Int32 → Int32 → Int32 → jI → jL → Prop
  | 0 => fun _ _ _ _ _ _ => False
  | n + 1 => fun v0 v1 v2 v3 I L => (((I v0 8) ≤ v3 → Q v2 I L) ∧ (¬ ((I v0 8) ≤ v3) → (∀ b4 : Nat, jr Z v0 56 = some b4 → (vp_in v3 6 ∧ (((I b4 v3.toNatClampNeg) ≤ 0 → f_X12_onStep_b35 (f_X12_onStep_L4 Z Q n) Z Q v0 v1 v3 v2 I L) ∧ (¬ ((I b4 v3.toNatClampNeg) ≤ 0) → (f_X12_placeOf v0 v3 Z I L (fun r13 I9 L10 => ((¬ r13 = v1 → f_X12_onStep_b35 (f_X12_onStep_L4 Z Q n) Z Q v0 v1 v3 v2 I9 L10) ∧ (r13 = v1 → f_X12_onStep_b36 (f_X12_onStep_L4 Z Q n) Z Q v0 v1 v3 v2 (1 : Int32) I9 L10))))))))))
set_option maxHeartbeats 4000000 in
set_option maxRecDepth 100000 in
theorem m_X12_onStep_L4 {G : jG} {Z : jZ} {Q : Int32 → jI → jL → Prop} (E : jE G cX12_onStep RX12 w_X12_onStep 4 (some .int) { frames := 1, cells := 0, slots := 0, locals := 21 } (rtI Z Q)) (hZ : SH Z)  : ∀ (n : Nat) (v0 : Nat) (v1 : Int32) (v2 : Int32) (v3 : Int32) (I : jI) (L : jL), jk Z v0 12 → f_X12_onStep_L4  Z Q n v0 v1 v2 v3 I L → jJ G 4 4 [(0, .ref v0), (1, .int v1), (2, .int v2), (3, .int v3)] [] Z I L 0 0 := by
  intro n
  induction n with
  | zero => intro v0 v1 v2 v3 I L _ h; exact h.elim
  | succ n ih =>
    intro v0 v1 v2 v3 I L kv0 h
    have h : (((I v0 8) ≤ v3 → Q v2 I L) ∧ (¬ ((I v0 8) ≤ v3) → (∀ b4 : Nat, jr Z v0 56 = some b4 → (vp_in v3 6 ∧ (((I b4 v3.toNatClampNeg) ≤ 0 → f_X12_onStep_b35 (f_X12_onStep_L4 Z Q n) Z Q v0 v1 v3 v2 I L) ∧ (¬ ((I b4 v3.toNatClampNeg) ≤ 0) → (f_X12_placeOf v0 v3 Z I L (fun r13 I9 L10 => ((¬ r13 = v1 → f_X12_onStep_b35 (f_X12_onStep_L4 Z Q n) Z Q v0 v1 v3 v2 I9 L10) ∧ (r13 = v1 → f_X12_onStep_b36 (f_X12_onStep_L4 Z Q n) Z Q v0 v1 v3 v2 (1 : Int32) I9 L10)))))))))) := h
    obtain ⟨K4, eK4⟩ : ∃ K : Nat → Int32 → Int32 → Int32 → jI → jL → Prop, K = f_X12_onStep_L4  Z Q n := ⟨_, rfl⟩
    have hK4 := ih
    clear eK4 K4
    generalize f_X12_onStep_L4  Z Q n = K4 at hK4 h
    refine j_iload_n E dX12_onStep_4 3 rfl ?_
    refine j_aload_n E dX12_onStep_5 0 rfl ?_
    refine j_geti E 12 8 rfl rfl (by decide) (by decide) (iw iT_12) rfl rfl (tw W_698) kv0 dX12_onStep_6 ?_
    refine j_icmp_ge E 44 dX12_onStep_9 (by decide) (fun c3 => ?_) (fun c3 => ?_)
    · have h := h.1 c3
      refine j_iload_n E dX12_onStep_44 2 rfl ?_
      exact j_ireturn E ⟨rfl, _, rfl, h⟩ (Nat.zero_le _) (Nat.zero_le _) dX12_onStep_45
    · have h := h.2 c3
      refine j_iload_n E dX12_onStep_12 2 rfl ?_
      refine j_aload_n E dX12_onStep_13 0 rfl ?_
      obtain ⟨b4, eb4, kb4, lb4⟩ := sh_f hZ kv0 (j := 56) (k := 14) (m := 6) rfl
      have h := h b4 eb4
      refine j_getr E 12 56 rfl rfl (by decide) (by decide) (iw iT_12) rfl rfl (tw W_918) kv0 eb4 dX12_onStep_14 ?_
      refine j_iload_n E dX12_onStep_17 3 rfl ?_
      obtain ⟨o5, h⟩ := h
      refine j_iald E kb4 (by rw [lb4]; exact o5) dX12_onStep_18 ?_
      refine j_if_le E 35 dX12_onStep_19 (by decide) (fun c6 => ?_) (fun c6 => ?_)
      · have h := h.1 c6
        refine j_sub [0, 1, 3] rfl ?_
        exact m_X12_onStep_b35 E hZ K4 hK4 v0 v1 v3 v2 I L kv0 h
      · have h := h.2 c6
        refine j_aload_n E dX12_onStep_22 0 rfl ?_
        refine j_iload_n E dX12_onStep_23 3 rfl ?_
        refine j_callV E [.int v3] [.int v2] (c_X12_placeOf (gL G) (gD G) (gY G) v0 v3 Z I L _ hZ kv0 h) (gwV W_920 W_921 W_922 W_695 W_919) rfl ⟨rfl, fy_X12_placeOf⟩ ⟨by decide, by decide⟩ (c := 12) rfl (by decide) kv0 rfl rfl (Nat.le_of_ble_eq_true rfl) ⟨Nat.zero_le _, Nat.zero_le _⟩ dX12_onStep_24 (fun v7 Z8 I9 L10 q11 => ?_)
        obtain ⟨rfl, r13, rfl, h⟩ := q11
        show jJ G 4 27 [(0, .ref v0), (1, .int v1), (2, .int v2), (3, .int v3)] [.int r13, .int v2] Z I9 L10 0 0
        refine j_iload_n E dX12_onStep_27 1 rfl ?_
        refine j_icmp_ne E 35 dX12_onStep_28 (by decide) (fun c14 => ?_) (fun c14 => ?_)
        · have h := h.1 c14
          refine j_sub [0, 1, 3] rfl ?_
          exact m_X12_onStep_b35 E hZ K4 hK4 v0 v1 v3 v2 I9 L10 kv0 h
        · have h := h.2 c14
          refine j_iconst E (v := 1) dX12_onStep_31 (by decide) ?_
          refine j_goto E 36 dX12_onStep_32 (by decide) ?_
          refine j_sub [0, 1, 3] rfl ?_
          exact m_X12_onStep_b36 E hZ K4 hK4 v0 v1 v3 v2 (1 : Int32) I9 L10 kv0 h
set_option maxRecDepth 100000 in
def f_X12_onStep (v0 : Nat) (v1 : Int32) (Z : jZ) (I : jI) (L : jL) (Q : Int32 → jI → jL → Prop) : Prop := (∃ m4 : Nat, f_X12_onStep_L4  Z Q m4 v0 v1 (0 : Int32) (0 : Int32) I L)
set_option maxHeartbeats 4000000 in
set_option maxRecDepth 100000 in
theorem c_X12_onStep (l : Launch) (D : va_G) (cy : jC) (v0 : Nat) (v1 : Int32) (Z : jZ) (I : jI) (L : jL) (Q : Int32 → jI → jL → Prop) (hZ : SH Z) (kv0 : jk Z v0 12) (h : f_X12_onStep v0 v1 Z I L Q) : jCt l yX12_onStep w_X12_onStep { frames := 1, cells := 0, slots := 0, locals := 21 } D cy [.ref v0, .int v1] Z I L (rtI Z Q) := by
  refine jCt_of (cc := cX12_onStep) (maxL := 4) (ret := (some .int)) (by decide +kernel) rfl (Nat.le_of_ble_eq_true rfl) ?_
  intro G eD eY eL E
  subst eD; subst eY; subst eL
  have E : jE G cX12_onStep RX12 w_X12_onStep 4 (some .int) { frames := 1, cells := 0, slots := 0, locals := 21 } (rtI Z Q) := E
  show jJ G 4 0 [(0, .ref v0), (1, .int v1)] [] Z I L 0 0
  refine j_iconst E (v := 0) dX12_onStep_0 (by decide) ?_
  refine j_istore_n E 2 [(2, .int (0 : Int32)), (0, .ref v0), (1, .int v1)] dX12_onStep_1 rfl (by decide) rfl ?_
  refine j_iconst E (v := 0) dX12_onStep_2 (by decide) ?_
  refine j_istore_n E 3 [(3, .int (0 : Int32)), (2, .int (0 : Int32)), (0, .ref v0), (1, .int v1)] dX12_onStep_3 rfl (by decide) rfl ?_
  obtain ⟨n15, h⟩ := h
  refine j_sub [2, 3, 1, 0] rfl ?_
  exact m_X12_onStep_L4 E hZ  n15 v0 v1 (0 : Int32) (0 : Int32) I L kv0 h
set_option maxRecDepth 100000 in
def f_X12_runFeast_L353 (B : Nat × Nat) (K138 : Nat → Int32 → Int32 → Int32 → jZ → jI → jL → Prop) (Q : Int32 → jZ → jI → jL → Prop) : Nat → Nat → Int32 → Int32 → Int32 → Int32 → jZ → jI → jL → Prop
  | 0 => fun _ _ _ _ _ _ _ _ => False
  | n + 1 => fun v0 v1 v2 v3 v4 Z I L => ((((I v0 0) - (1 : Int32)) ≤ v4 → (∀ x2 : Int32, x2 = v3 + 1 → K138 v0 v1 v2 x2 Z I L)) ∧ (¬ (((I v0 0) - (1 : Int32)) ≤ v4) → (f_X12_onStep v0 v4 Z I L (fun r9 I5 L6 => (∀ I10 : jI, I10 = jpI I5 v0 60 (if (I v0 60) < r9 then r9 else (I v0 60)) → (∀ x11 : Int32, x11 = v4 + 1 → (f_X12_runFeast_L353 B K138 Q n) v0 v1 v2 v3 x11 Z I10 L6))))))
set_option maxHeartbeats 4000000 in
set_option maxRecDepth 100000 in
theorem m_X12_runFeast_L353 {G : jG} {Z0 : jZ} {B : Nat × Nat} {Q : Int32 → jZ → jI → jL → Prop} (E : jE G cX12_runFeast RX12 w_X12_runFeast 7 (some .int) (jrm B 107 2589 Z0) jRF) (EU : jEU G B Z0 (urtI B Z0 Q)) (K138 : Nat → Int32 → Int32 → Int32 → jZ → jI → jL → Prop) (hK138 : ∀ (v0 : Nat) (v1 : Int32) (v2 : Int32) (v3 : Int32) (Z : jZ) (I : jI) (L : jL), SH Z → jext Z0 Z → jle Z0 Z → jin B Z → jk Z v0 12 → K138 v0 v1 v2 v3 Z I L → jJ G 7 138 [(0, .ref v0), (1, .int v1), (2, .int v2), (3, .int v3)] [] Z I L (jcz Z - jcz Z0) (jsz Z - jsz Z0)) : ∀ (n : Nat) (v0 : Nat) (v1 : Int32) (v2 : Int32) (v3 : Int32) (v4 : Int32) (Z : jZ) (I : jI) (L : jL), SH Z → jext Z0 Z → jle Z0 Z → jin B Z → jk Z v0 12 → f_X12_runFeast_L353 B K138 Q n v0 v1 v2 v3 v4 Z I L → jJ G 7 353 [(0, .ref v0), (1, .int v1), (2, .int v2), (3, .int v3), (4, .int v4)] [] Z I L (jcz Z - jcz Z0) (jsz Z - jsz Z0) := by
  intro n
  induction n with
  | zero => intro v0 v1 v2 v3 v4 Z I L _ _ _ _ _ h; exact h.elim
  | succ n ih =>
    intro v0 v1 v2 v3 v4 Z I L hZ hx hc hb kv0 h
    have h : ((((I v0 0) - (1 : Int32)) ≤ v4 → (∀ x2 : Int32, x2 = v3 + 1 → K138 v0 v1 v2 x2 Z I L)) ∧ (¬ (((I v0 0) - (1 : Int32)) ≤ v4) → (f_X12_onStep v0 v4 Z I L (fun r9 I5 L6 => (∀ I10 : jI, I10 = jpI I5 v0 60 (if (I v0 60) < r9 then r9 else (I v0 60)) → (∀ x11 : Int32, x11 = v4 + 1 → (f_X12_runFeast_L353 B K138 Q n) v0 v1 v2 v3 x11 Z I10 L6)))))) := h
    obtain ⟨K353, eK353⟩ : ∃ K : Nat → Int32 → Int32 → Int32 → Int32 → jZ → jI → jL → Prop, K = f_X12_runFeast_L353 B K138 Q n := ⟨_, rfl⟩
    have hK353 := ih
    clear eK353 K353
    generalize f_X12_runFeast_L353 B K138 Q n = K353 at hK353 h
    refine j_iload E dX12_runFeast_353 4 rfl ?_
    refine j_aload_n E dX12_runFeast_355 0 rfl ?_
    refine j_geti E 12 0 rfl rfl (by decide) (by decide) (iw iT_12) rfl rfl (tw W_693) kv0 dX12_runFeast_356 ?_
    refine j_iconst E (v := 1) dX12_runFeast_359 (by decide) ?_
    refine j_isub E dX12_runFeast_360 ?_
    refine j_icmp_ge E 387 dX12_runFeast_361 (by decide) (fun c1 => ?_) (fun c1 => ?_)
    · have h := h.1 c1
      obtain ⟨x2, ex2⟩ : ∃ y : Int32, y = v3 + 1 := ⟨_, rfl⟩
      have h := h x2 ex2
      refine j_iinc E x2 [(3, .int x2), (0, .ref v0), (1, .int v1), (2, .int v2), (4, .int v4)] dX12_runFeast_387 3 rfl (by rw [ex2]; rfl) (by decide) rfl ?_
      refine j_goto E 138 dX12_runFeast_390 (by decide) ?_
      refine j_sub [1, 2, 3, 0] rfl ?_
      exact hK138 v0 v1 v2 x2 Z I L hZ hx hc hb kv0 h
    · have h := h.2 c1
      refine j_aload_n E dX12_runFeast_364 0 rfl ?_
      refine j_aload_n E dX12_runFeast_365 0 rfl ?_
      refine j_geti E 12 60 rfl rfl (by decide) (by decide) (iw iT_12) rfl rfl (tw W_923) kv0 dX12_runFeast_366 ?_
      refine j_aload_n E dX12_runFeast_369 0 rfl ?_
      refine j_iload E dX12_runFeast_370 4 rfl ?_
      refine j_callV E [.int v4] [.int (I v0 60), .ref v0] (c_X12_onStep (gL G) (gD G) (gY G) v0 v4 Z I L _ hZ kv0 h) (gwV W_925 W_926 W_927 W_695 W_924) rfl ⟨rfl, fy_X12_onStep⟩ ⟨Nat.le_of_ble_eq_true rfl, Nat.le_of_ble_eq_true rfl⟩ (c := 12) rfl (by decide) kv0 rfl rfl (Nat.le_of_ble_eq_true rfl) (ju_kn hb) dX12_runFeast_372 (fun v3 Z4 I5 L6 q7 => ?_)
      obtain ⟨rfl, r9, rfl, h⟩ := q7
      show jJ G 7 375 [(0, .ref v0), (1, .int v1), (2, .int v2), (3, .int v3), (4, .int v4)] [.int r9, .int (I v0 60), .ref v0] Z I5 L6 (jcz Z - jcz Z0) (jsz Z - jsz Z0)
      refine j_max E (tw W_784) (tw W_147) (tw W_8) (tw W_148) (Nat.le_of_ble_eq_true rfl) (Nat.le_of_ble_eq_true rfl) (ju_k hb) (ju_n hb) dX12_runFeast_375 ?_
      refine j_puti E 12 60 rfl rfl (by decide) (by decide) (iw iT_12) tyX12_ok nmX12 rfl rfl (tw W_923) rfl rfl rfl kv0 dX12_runFeast_378 ?_
      refine j_nmI (fun I10 eI10 => ?_)
      have h := h I10 eI10
      obtain ⟨x11, ex11⟩ : ∃ y : Int32, y = v4 + 1 := ⟨_, rfl⟩
      have h := h x11 ex11
      refine j_iinc E x11 [(4, .int x11), (0, .ref v0), (1, .int v1), (2, .int v2), (3, .int v3)] dX12_runFeast_381 4 rfl (by rw [ex11]; rfl) (by decide) rfl ?_
      refine j_goto E 353 dX12_runFeast_384 (by decide) ?_
      refine j_sub [1, 2, 3, 4, 0] rfl ?_
      exact hK353 v0 v1 v2 v3 x11 Z I10 L6 hZ hx hc hb kv0 h
set_option maxRecDepth 100000 in
def f_X12_runFeast_b338 (B : Nat × Nat) (K138 : Nat → Int32 → Int32 → Int32 → jZ → jI → jL → Prop) (K203 : Nat → Int32 → Int32 → Int32 → Int32 → jZ → jI → jL → Prop) (K212 : Nat → Int32 → Int32 → Int32 → Int32 → Int32 → jZ → jI → jL → Prop) (Q : Int32 → jZ → jI → jL → Prop) (v0 : Nat) (v1 : Int32) (v2 : Int32) (v3 : Int32) (v4 : Int32) (v5 : Int32) (Z : jZ) (I : jI) (L : jL) : Prop := (∀ x12 : Int32, x12 = v5 + 1 → K212 v0 v1 v2 v3 v4 x12 Z I L)
set_option maxHeartbeats 4000000 in
set_option maxRecDepth 100000 in
theorem m_X12_runFeast_b338 {G : jG} {B : Nat × Nat} {Z0 : jZ} {Q : Int32 → jZ → jI → jL → Prop} (E : jE G cX12_runFeast RX12 w_X12_runFeast 7 (some .int) (jrm B 107 2589 Z0) jRF) (EU : jEU G B Z0 (urtI B Z0 Q)) (K138 : Nat → Int32 → Int32 → Int32 → jZ → jI → jL → Prop) (hK138 : ∀ (v0 : Nat) (v1 : Int32) (v2 : Int32) (v3 : Int32) (Z : jZ) (I : jI) (L : jL), SH Z → jext Z0 Z → jle Z0 Z → jin B Z → jk Z v0 12 → K138 v0 v1 v2 v3 Z I L → jJ G 7 138 [(0, .ref v0), (1, .int v1), (2, .int v2), (3, .int v3)] [] Z I L (jcz Z - jcz Z0) (jsz Z - jsz Z0)) (K203 : Nat → Int32 → Int32 → Int32 → Int32 → jZ → jI → jL → Prop) (hK203 : ∀ (v0 : Nat) (v1 : Int32) (v2 : Int32) (v3 : Int32) (v4 : Int32) (Z : jZ) (I : jI) (L : jL), SH Z → jext Z0 Z → jle Z0 Z → jin B Z → jk Z v0 12 → K203 v0 v1 v2 v3 v4 Z I L → jJ G 7 203 [(0, .ref v0), (1, .int v1), (2, .int v2), (3, .int v3), (4, .int v4)] [] Z I L (jcz Z - jcz Z0) (jsz Z - jsz Z0)) (K212 : Nat → Int32 → Int32 → Int32 → Int32 → Int32 → jZ → jI → jL → Prop) (hK212 : ∀ (v0 : Nat) (v1 : Int32) (v2 : Int32) (v3 : Int32) (v4 : Int32) (v5 : Int32) (Z : jZ) (I : jI) (L : jL), SH Z → jext Z0 Z → jle Z0 Z → jin B Z → jk Z v0 12 → K212 v0 v1 v2 v3 v4 v5 Z I L → jJ G 7 212 [(0, .ref v0), (1, .int v1), (2, .int v2), (3, .int v3), (4, .int v4), (5, .int v5)] [] Z I L (jcz Z - jcz Z0) (jsz Z - jsz Z0)) (v0 : Nat) (v1 : Int32) (v2 : Int32) (v3 : Int32) (v4 : Int32) (v5 : Int32) (Z : jZ) (I : jI) (L : jL) (hZ : SH Z) (hx : jext Z0 Z) (hc : jle Z0 Z) (hb : jin B Z) (kv0 : jk Z v0 12) (h : f_X12_runFeast_b338 B K138 K203 K212 Q v0 v1 v2 v3 v4 v5 Z I L) : jJ G 7 338 [(0, .ref v0), (1, .int v1), (2, .int v2), (3, .int v3), (4, .int v4), (5, .int v5)] [] Z I L (jcz Z - jcz Z0) (jsz Z - jsz Z0) := by
  obtain ⟨x12, ex12⟩ : ∃ y : Int32, y = v5 + 1 := ⟨_, rfl⟩
  have h := h x12 ex12
  refine j_iinc E x12 [(5, .int x12), (0, .ref v0), (1, .int v1), (2, .int v2), (3, .int v3), (4, .int v4)] dX12_runFeast_338 5 rfl (by rw [ex12]; rfl) (by decide) rfl ?_
  refine j_goto E 212 dX12_runFeast_341 (by decide) ?_
  refine j_sub [1, 2, 3, 4, 5, 0] rfl ?_
  exact hK212 v0 v1 v2 v3 v4 x12 Z I L hZ hx hc hb kv0 h
set_option maxRecDepth 100000 in
def f_X12_runFeast_b336 (B : Nat × Nat) (K138 : Nat → Int32 → Int32 → Int32 → jZ → jI → jL → Prop) (K203 : Nat → Int32 → Int32 → Int32 → Int32 → jZ → jI → jL → Prop) (K212 : Nat → Int32 → Int32 → Int32 → Int32 → Int32 → jZ → jI → jL → Prop) (Q : Int32 → jZ → jI → jL → Prop) (v0 : Nat) (v1 : Int32) (v3 : Int32) (v4 : Int32) (v5 : Int32) (s0 : Int32) (s1 : Int32) (Z : jZ) (I : jI) (L : jL) : Prop := (∀ x13 : Int32, x13 = (s0 - s1) → f_X12_runFeast_b338 B K138 K203 K212 Q v0 v1 x13 v3 v4 v5 Z I L)
set_option maxHeartbeats 4000000 in
set_option maxRecDepth 100000 in
theorem m_X12_runFeast_b336 {G : jG} {B : Nat × Nat} {Z0 : jZ} {Q : Int32 → jZ → jI → jL → Prop} (E : jE G cX12_runFeast RX12 w_X12_runFeast 7 (some .int) (jrm B 107 2589 Z0) jRF) (EU : jEU G B Z0 (urtI B Z0 Q)) (K138 : Nat → Int32 → Int32 → Int32 → jZ → jI → jL → Prop) (hK138 : ∀ (v0 : Nat) (v1 : Int32) (v2 : Int32) (v3 : Int32) (Z : jZ) (I : jI) (L : jL), SH Z → jext Z0 Z → jle Z0 Z → jin B Z → jk Z v0 12 → K138 v0 v1 v2 v3 Z I L → jJ G 7 138 [(0, .ref v0), (1, .int v1), (2, .int v2), (3, .int v3)] [] Z I L (jcz Z - jcz Z0) (jsz Z - jsz Z0)) (K203 : Nat → Int32 → Int32 → Int32 → Int32 → jZ → jI → jL → Prop) (hK203 : ∀ (v0 : Nat) (v1 : Int32) (v2 : Int32) (v3 : Int32) (v4 : Int32) (Z : jZ) (I : jI) (L : jL), SH Z → jext Z0 Z → jle Z0 Z → jin B Z → jk Z v0 12 → K203 v0 v1 v2 v3 v4 Z I L → jJ G 7 203 [(0, .ref v0), (1, .int v1), (2, .int v2), (3, .int v3), (4, .int v4)] [] Z I L (jcz Z - jcz Z0) (jsz Z - jsz Z0)) (K212 : Nat → Int32 → Int32 → Int32 → Int32 → Int32 → jZ → jI → jL → Prop) (hK212 : ∀ (v0 : Nat) (v1 : Int32) (v2 : Int32) (v3 : Int32) (v4 : Int32) (v5 : Int32) (Z : jZ) (I : jI) (L : jL), SH Z → jext Z0 Z → jle Z0 Z → jin B Z → jk Z v0 12 → K212 v0 v1 v2 v3 v4 v5 Z I L → jJ G 7 212 [(0, .ref v0), (1, .int v1), (2, .int v2), (3, .int v3), (4, .int v4), (5, .int v5)] [] Z I L (jcz Z - jcz Z0) (jsz Z - jsz Z0)) (v0 : Nat) (v1 : Int32) (v3 : Int32) (v4 : Int32) (v5 : Int32) (s0 : Int32) (s1 : Int32) (Z : jZ) (I : jI) (L : jL) (hZ : SH Z) (hx : jext Z0 Z) (hc : jle Z0 Z) (hb : jin B Z) (kv0 : jk Z v0 12) (h : f_X12_runFeast_b336 B K138 K203 K212 Q v0 v1 v3 v4 v5 s0 s1 Z I L) : jJ G 7 336 [(0, .ref v0), (1, .int v1), (3, .int v3), (4, .int v4), (5, .int v5)] [.int s1, .int s0] Z I L (jcz Z - jcz Z0) (jsz Z - jsz Z0) := by
  refine j_isub E dX12_runFeast_336 ?_
  refine j_topi (fun x13 ex13 => ?_)
  have h := h x13 ex13
  refine j_istore_n E 2 [(2, .int x13), (0, .ref v0), (1, .int v1), (3, .int v3), (4, .int v4), (5, .int v5)] dX12_runFeast_337 rfl (by decide) rfl ?_
  refine j_sub [1, 2, 0, 3, 4, 5] rfl ?_
  exact m_X12_runFeast_b338 E EU K138 hK138 K203 hK203 K212 hK212 v0 v1 x13 v3 v4 v5 Z I L hZ hx hc hb kv0 h
set_option maxRecDepth 100000 in
def f_X12_runFeast_b302 (B : Nat × Nat) (K138 : Nat → Int32 → Int32 → Int32 → jZ → jI → jL → Prop) (K203 : Nat → Int32 → Int32 → Int32 → Int32 → jZ → jI → jL → Prop) (K212 : Nat → Int32 → Int32 → Int32 → Int32 → Int32 → jZ → jI → jL → Prop) (Q : Int32 → jZ → jI → jL → Prop) (v0 : Nat) (v1 : Int32) (v2 : Int32) (v3 : Int32) (v4 : Int32) (v5 : Int32) (Z : jZ) (I : jI) (L : jL) : Prop := (∀ b14 : Nat, jr Z v0 57 = some b14 → (vp_in v5 6 ∧ (vp_in v5 6 ∧ (∀ I17 : jI, I17 = jpI I b14 v5.toNatClampNeg ((I b14 v5.toNatClampNeg) + (1 : Int32)) → (∀ b18 : Nat, jr Z v0 57 = some b18 → (vp_in v5 6 ∧ (∀ b20 : Nat, jr Z v0 56 = some b20 → (vp_in v5 6 ∧ ((¬ (I17 b18 v5.toNatClampNeg) = (I17 b20 v5.toNatClampNeg) → f_X12_runFeast_b336 B K138 K203 K212 Q v0 v1 v3 v4 v5 v2 (0 : Int32) Z I17 L) ∧ ((I17 b18 v5.toNatClampNeg) = (I17 b20 v5.toNatClampNeg) → f_X12_runFeast_b336 B K138 K203 K212 Q v0 v1 v3 v4 v5 v2 (1 : Int32) Z I17 L))))))))))
set_option maxHeartbeats 4000000 in
set_option maxRecDepth 100000 in
theorem m_X12_runFeast_b302 {G : jG} {B : Nat × Nat} {Z0 : jZ} {Q : Int32 → jZ → jI → jL → Prop} (E : jE G cX12_runFeast RX12 w_X12_runFeast 7 (some .int) (jrm B 107 2589 Z0) jRF) (EU : jEU G B Z0 (urtI B Z0 Q)) (K138 : Nat → Int32 → Int32 → Int32 → jZ → jI → jL → Prop) (hK138 : ∀ (v0 : Nat) (v1 : Int32) (v2 : Int32) (v3 : Int32) (Z : jZ) (I : jI) (L : jL), SH Z → jext Z0 Z → jle Z0 Z → jin B Z → jk Z v0 12 → K138 v0 v1 v2 v3 Z I L → jJ G 7 138 [(0, .ref v0), (1, .int v1), (2, .int v2), (3, .int v3)] [] Z I L (jcz Z - jcz Z0) (jsz Z - jsz Z0)) (K203 : Nat → Int32 → Int32 → Int32 → Int32 → jZ → jI → jL → Prop) (hK203 : ∀ (v0 : Nat) (v1 : Int32) (v2 : Int32) (v3 : Int32) (v4 : Int32) (Z : jZ) (I : jI) (L : jL), SH Z → jext Z0 Z → jle Z0 Z → jin B Z → jk Z v0 12 → K203 v0 v1 v2 v3 v4 Z I L → jJ G 7 203 [(0, .ref v0), (1, .int v1), (2, .int v2), (3, .int v3), (4, .int v4)] [] Z I L (jcz Z - jcz Z0) (jsz Z - jsz Z0)) (K212 : Nat → Int32 → Int32 → Int32 → Int32 → Int32 → jZ → jI → jL → Prop) (hK212 : ∀ (v0 : Nat) (v1 : Int32) (v2 : Int32) (v3 : Int32) (v4 : Int32) (v5 : Int32) (Z : jZ) (I : jI) (L : jL), SH Z → jext Z0 Z → jle Z0 Z → jin B Z → jk Z v0 12 → K212 v0 v1 v2 v3 v4 v5 Z I L → jJ G 7 212 [(0, .ref v0), (1, .int v1), (2, .int v2), (3, .int v3), (4, .int v4), (5, .int v5)] [] Z I L (jcz Z - jcz Z0) (jsz Z - jsz Z0)) (v0 : Nat) (v1 : Int32) (v2 : Int32) (v3 : Int32) (v4 : Int32) (v5 : Int32) (Z : jZ) (I : jI) (L : jL) (hZ : SH Z) (hx : jext Z0 Z) (hc : jle Z0 Z) (hb : jin B Z) (kv0 : jk Z v0 12) (h : f_X12_runFeast_b302 B K138 K203 K212 Q v0 v1 v2 v3 v4 v5 Z I L) : jJ G 7 302 [(0, .ref v0), (1, .int v1), (2, .int v2), (3, .int v3), (4, .int v4), (5, .int v5)] [] Z I L (jcz Z - jcz Z0) (jsz Z - jsz Z0) := by
  refine j_aload_n E dX12_runFeast_302 0 rfl ?_
  obtain ⟨b14, eb14, kb14, lb14⟩ := sh_f hZ kv0 (j := 57) (k := 14) (m := 6) rfl
  have h := h b14 eb14
  refine j_getr E 12 57 rfl rfl (by decide) (by decide) (iw iT_12) rfl rfl (tw W_916) kv0 eb14 dX12_runFeast_303 ?_
  refine j_iload E dX12_runFeast_306 5 rfl ?_
  refine j_dup2_11 E dX12_runFeast_308 rfl rfl ?_
  obtain ⟨o15, h⟩ := h
  refine j_iald E kb14 (by rw [lb14]; exact o15) dX12_runFeast_309 ?_
  refine j_iconst E (v := 1) dX12_runFeast_310 (by decide) ?_
  refine j_iadd E dX12_runFeast_311 ?_
  obtain ⟨o16, h⟩ := h
  refine j_iast E kb14 (by rw [lb14]; exact o16) dX12_runFeast_312 ?_
  refine j_nmI (fun I17 eI17 => ?_)
  have h := h I17 eI17
  refine j_iload_n E dX12_runFeast_313 2 rfl ?_
  refine j_aload_n E dX12_runFeast_314 0 rfl ?_
  obtain ⟨b18, eb18, kb18, lb18⟩ := sh_f hZ kv0 (j := 57) (k := 14) (m := 6) rfl
  have h := h b18 eb18
  refine j_getr E 12 57 rfl rfl (by decide) (by decide) (iw iT_12) rfl rfl (tw W_916) kv0 eb18 dX12_runFeast_315 ?_
  refine j_iload E dX12_runFeast_318 5 rfl ?_
  obtain ⟨o19, h⟩ := h
  refine j_iald E kb18 (by rw [lb18]; exact o19) dX12_runFeast_320 ?_
  refine j_aload_n E dX12_runFeast_321 0 rfl ?_
  obtain ⟨b20, eb20, kb20, lb20⟩ := sh_f hZ kv0 (j := 56) (k := 14) (m := 6) rfl
  have h := h b20 eb20
  refine j_getr E 12 56 rfl rfl (by decide) (by decide) (iw iT_12) rfl rfl (tw W_918) kv0 eb20 dX12_runFeast_322 ?_
  refine j_iload E dX12_runFeast_325 5 rfl ?_
  obtain ⟨o21, h⟩ := h
  refine j_iald E kb20 (by rw [lb20]; exact o21) dX12_runFeast_327 ?_
  refine j_icmp_ne E 335 dX12_runFeast_328 (by decide) (fun c22 => ?_) (fun c22 => ?_)
  · have h := h.1 c22
    refine j_iconst E (v := 0) dX12_runFeast_335 (by decide) ?_
    refine j_sub [0, 1, 3, 4, 5] rfl ?_
    exact m_X12_runFeast_b336 E EU K138 hK138 K203 hK203 K212 hK212 v0 v1 v3 v4 v5 v2 (0 : Int32) Z I17 L hZ hx hc hb kv0 h
  · have h := h.2 c22
    refine j_iconst E (v := 1) dX12_runFeast_331 (by decide) ?_
    refine j_goto E 336 dX12_runFeast_332 (by decide) ?_
    refine j_sub [0, 1, 3, 4, 5] rfl ?_
    exact m_X12_runFeast_b336 E EU K138 hK138 K203 hK203 K212 hK212 v0 v1 v3 v4 v5 v2 (1 : Int32) Z I17 L hZ hx hc hb kv0 h
set_option maxRecDepth 100000 in
def f_X12_runFeast_L212 (B : Nat × Nat) (K138 : Nat → Int32 → Int32 → Int32 → jZ → jI → jL → Prop) (K203 : Nat → Int32 → Int32 → Int32 → Int32 → jZ → jI → jL → Prop) (Q : Int32 → jZ → jI → jL → Prop) : Nat → Nat → Int32 → Int32 → Int32 → Int32 → Int32 → jZ → jI → jL → Prop
  | 0 => fun _ _ _ _ _ _ _ _ _ => False
  | n + 1 => fun v0 v1 v2 v3 v4 v5 Z I L => (((I v0 8) ≤ v5 → (∀ x24 : Int32, x24 = v4 + (-1) → K203 v0 v1 v2 v3 x24 Z I L)) ∧ (¬ ((I v0 8) ≤ v5) → (∀ b25 : Nat, jr Z v0 61 = some b25 → (vp_in v5 6 ∧ (((I b25 v5.toNatClampNeg) = v4 → (∀ b28 : Nat, jr Z v0 55 = some b28 → (∀ b29 : Nat, jr Z v0 57 = some b29 → (vp_in v5 6 ∧ (vp_in (((24 : Int32) * v5) + (I b29 v5.toNatClampNeg)) 144 ∧ (∀ x32 : Int32, x32 = (I b28 (((24 : Int32) * v5) + (I b29 v5.toNatClampNeg)).toNatClampNeg) → ((((I v0 0) - (1 : Int32)) ≤ x32 → f_X12_runFeast_b302 B K138 K203 (f_X12_runFeast_L212 B K138 K203 Q n) Q v0 v1 v2 v3 v4 v5 Z I L) ∧ (¬ (((I v0 0) - (1 : Int32)) ≤ x32) → (f_X12_onStep v0 x32 Z I L (fun r40 I36 L37 => ((r40 < v1 → f_X12_runFeast_b302 B K138 K203 (f_X12_runFeast_L212 B K138 K203 Q n) Q v0 v1 v2 v3 v4 v5 Z I36 L37) ∧ (¬ (r40 < v1) → (∀ b42 : Nat, jr Z v0 58 = some b42 → (vp_in v5 6 ∧ (vp_in v5 6 ∧ (∀ I45 : jI, I45 = jpI I36 b42 v5.toNatClampNeg ((I36 b42 v5.toNatClampNeg) + (1 : Int32)) → (∀ b46 : Nat, jr Z v0 59 = some b46 → (vp_in x32 24 ∧ (vp_in x32 24 ∧ (∀ I49 : jI, I49 = jpI I45 b46 x32.toNatClampNeg ((I45 b46 x32.toNatClampNeg) + (1 : Int32)) → f_X12_runFeast_b338 B K138 K203 (f_X12_runFeast_L212 B K138 K203 Q n) Q v0 v1 v2 v3 v4 v5 Z I49 L37)))))))))))))))))))) ∧ (¬ ((I b25 v5.toNatClampNeg) = v4) → f_X12_runFeast_b338 B K138 K203 (f_X12_runFeast_L212 B K138 K203 Q n) Q v0 v1 v2 v3 v4 v5 Z I L))))))
set_option maxHeartbeats 4000000 in
set_option maxRecDepth 100000 in
theorem m_X12_runFeast_L212 {G : jG} {Z0 : jZ} {B : Nat × Nat} {Q : Int32 → jZ → jI → jL → Prop} (E : jE G cX12_runFeast RX12 w_X12_runFeast 7 (some .int) (jrm B 107 2589 Z0) jRF) (EU : jEU G B Z0 (urtI B Z0 Q)) (K138 : Nat → Int32 → Int32 → Int32 → jZ → jI → jL → Prop) (hK138 : ∀ (v0 : Nat) (v1 : Int32) (v2 : Int32) (v3 : Int32) (Z : jZ) (I : jI) (L : jL), SH Z → jext Z0 Z → jle Z0 Z → jin B Z → jk Z v0 12 → K138 v0 v1 v2 v3 Z I L → jJ G 7 138 [(0, .ref v0), (1, .int v1), (2, .int v2), (3, .int v3)] [] Z I L (jcz Z - jcz Z0) (jsz Z - jsz Z0)) (K203 : Nat → Int32 → Int32 → Int32 → Int32 → jZ → jI → jL → Prop) (hK203 : ∀ (v0 : Nat) (v1 : Int32) (v2 : Int32) (v3 : Int32) (v4 : Int32) (Z : jZ) (I : jI) (L : jL), SH Z → jext Z0 Z → jle Z0 Z → jin B Z → jk Z v0 12 → K203 v0 v1 v2 v3 v4 Z I L → jJ G 7 203 [(0, .ref v0), (1, .int v1), (2, .int v2), (3, .int v3), (4, .int v4)] [] Z I L (jcz Z - jcz Z0) (jsz Z - jsz Z0)) : ∀ (n : Nat) (v0 : Nat) (v1 : Int32) (v2 : Int32) (v3 : Int32) (v4 : Int32) (v5 : Int32) (Z : jZ) (I : jI) (L : jL), SH Z → jext Z0 Z → jle Z0 Z → jin B Z → jk Z v0 12 → f_X12_runFeast_L212 B K138 K203 Q n v0 v1 v2 v3 v4 v5 Z I L → jJ G 7 212 [(0, .ref v0), (1, .int v1), (2, .int v2), (3, .int v3), (4, .int v4), (5, .int v5)] [] Z I L (jcz Z - jcz Z0) (jsz Z - jsz Z0) := by
  intro n
  induction n with
  | zero => intro v0 v1 v2 v3 v4 v5 Z I L _ _ _ _ _ h; exact h.elim
  | succ n ih =>
    intro v0 v1 v2 v3 v4 v5 Z I L hZ hx hc hb kv0 h
    have h : (((I v0 8) ≤ v5 → (∀ x24 : Int32, x24 = v4 + (-1) → K203 v0 v1 v2 v3 x24 Z I L)) ∧ (¬ ((I v0 8) ≤ v5) → (∀ b25 : Nat, jr Z v0 61 = some b25 → (vp_in v5 6 ∧ (((I b25 v5.toNatClampNeg) = v4 → (∀ b28 : Nat, jr Z v0 55 = some b28 → (∀ b29 : Nat, jr Z v0 57 = some b29 → (vp_in v5 6 ∧ (vp_in (((24 : Int32) * v5) + (I b29 v5.toNatClampNeg)) 144 ∧ (∀ x32 : Int32, x32 = (I b28 (((24 : Int32) * v5) + (I b29 v5.toNatClampNeg)).toNatClampNeg) → ((((I v0 0) - (1 : Int32)) ≤ x32 → f_X12_runFeast_b302 B K138 K203 (f_X12_runFeast_L212 B K138 K203 Q n) Q v0 v1 v2 v3 v4 v5 Z I L) ∧ (¬ (((I v0 0) - (1 : Int32)) ≤ x32) → (f_X12_onStep v0 x32 Z I L (fun r40 I36 L37 => ((r40 < v1 → f_X12_runFeast_b302 B K138 K203 (f_X12_runFeast_L212 B K138 K203 Q n) Q v0 v1 v2 v3 v4 v5 Z I36 L37) ∧ (¬ (r40 < v1) → (∀ b42 : Nat, jr Z v0 58 = some b42 → (vp_in v5 6 ∧ (vp_in v5 6 ∧ (∀ I45 : jI, I45 = jpI I36 b42 v5.toNatClampNeg ((I36 b42 v5.toNatClampNeg) + (1 : Int32)) → (∀ b46 : Nat, jr Z v0 59 = some b46 → (vp_in x32 24 ∧ (vp_in x32 24 ∧ (∀ I49 : jI, I49 = jpI I45 b46 x32.toNatClampNeg ((I45 b46 x32.toNatClampNeg) + (1 : Int32)) → f_X12_runFeast_b338 B K138 K203 (f_X12_runFeast_L212 B K138 K203 Q n) Q v0 v1 v2 v3 v4 v5 Z I49 L37)))))))))))))))))))) ∧ (¬ ((I b25 v5.toNatClampNeg) = v4) → f_X12_runFeast_b338 B K138 K203 (f_X12_runFeast_L212 B K138 K203 Q n) Q v0 v1 v2 v3 v4 v5 Z I L)))))) := h
    obtain ⟨K212, eK212⟩ : ∃ K : Nat → Int32 → Int32 → Int32 → Int32 → Int32 → jZ → jI → jL → Prop, K = f_X12_runFeast_L212 B K138 K203 Q n := ⟨_, rfl⟩
    have hK212 := ih
    clear eK212 K212
    generalize f_X12_runFeast_L212 B K138 K203 Q n = K212 at hK212 h
    refine j_iload E dX12_runFeast_212 5 rfl ?_
    refine j_aload_n E dX12_runFeast_214 0 rfl ?_
    refine j_geti E 12 8 rfl rfl (by decide) (by decide) (iw iT_12) rfl rfl (tw W_698) kv0 dX12_runFeast_215 ?_
    refine j_icmp_ge E 344 dX12_runFeast_218 (by decide) (fun c23 => ?_) (fun c23 => ?_)
    · have h := h.1 c23
      obtain ⟨x24, ex24⟩ : ∃ y : Int32, y = v4 + (-1) := ⟨_, rfl⟩
      have h := h x24 ex24
      refine j_iinc E x24 [(4, .int x24), (0, .ref v0), (1, .int v1), (2, .int v2), (3, .int v3), (5, .int v5)] dX12_runFeast_344 4 rfl (by rw [ex24]; rfl) (by decide) rfl ?_
      refine j_goto E 203 dX12_runFeast_347 (by decide) ?_
      refine j_sub [1, 2, 3, 4, 0] rfl ?_
      exact hK203 v0 v1 v2 v3 x24 Z I L hZ hx hc hb kv0 h
    · have h := h.2 c23
      refine j_aload_n E dX12_runFeast_221 0 rfl ?_
      obtain ⟨b25, eb25, kb25, lb25⟩ := sh_f hZ kv0 (j := 61) (k := 14) (m := 6) rfl
      have h := h b25 eb25
      refine j_getr E 12 61 rfl rfl (by decide) (by decide) (iw iT_12) rfl rfl (tw W_928) kv0 eb25 dX12_runFeast_222 ?_
      refine j_iload E dX12_runFeast_225 5 rfl ?_
      obtain ⟨o26, h⟩ := h
      refine j_iald E kb25 (by rw [lb25]; exact o26) dX12_runFeast_227 ?_
      refine j_iload E dX12_runFeast_228 4 rfl ?_
      refine j_icmp_eq E 236 dX12_runFeast_230 (by decide) (fun c27 => ?_) (fun c27 => ?_)
      · have h := h.1 c27
        refine j_aload_n E dX12_runFeast_236 0 rfl ?_
        obtain ⟨b28, eb28, kb28, lb28⟩ := sh_f hZ kv0 (j := 55) (k := 14) (m := 144) rfl
        have h := h b28 eb28
        refine j_getr E 12 55 rfl rfl (by decide) (by decide) (iw iT_12) rfl rfl (tw W_917) kv0 eb28 dX12_runFeast_237 ?_
        refine j_bipush E (v := 24) dX12_runFeast_240 (by decide) ?_
        refine j_iload E dX12_runFeast_242 5 rfl ?_
        refine j_imul E dX12_runFeast_244 ?_
        refine j_aload_n E dX12_runFeast_245 0 rfl ?_
        obtain ⟨b29, eb29, kb29, lb29⟩ := sh_f hZ kv0 (j := 57) (k := 14) (m := 6) rfl
        have h := h b29 eb29
        refine j_getr E 12 57 rfl rfl (by decide) (by decide) (iw iT_12) rfl rfl (tw W_916) kv0 eb29 dX12_runFeast_246 ?_
        refine j_iload E dX12_runFeast_249 5 rfl ?_
        obtain ⟨o30, h⟩ := h
        refine j_iald E kb29 (by rw [lb29]; exact o30) dX12_runFeast_251 ?_
        refine j_iadd E dX12_runFeast_252 ?_
        obtain ⟨o31, h⟩ := h
        refine j_iald E kb28 (by rw [lb28]; exact o31) dX12_runFeast_253 ?_
        refine j_topi (fun x32 ex32 => ?_)
        have h := h x32 ex32
        refine j_istore E 6 [(6, .int x32), (0, .ref v0), (1, .int v1), (2, .int v2), (3, .int v3), (4, .int v4), (5, .int v5)] dX12_runFeast_254 (by decide) rfl ?_
        refine j_iload E dX12_runFeast_256 0 rfl ?_
        refine j_aload_n E dX12_runFeast_258 1 rfl ?_
        refine j_geti E 12 0 rfl rfl (by decide) (by decide) (iw iT_12) rfl rfl (tw W_693) kv0 dX12_runFeast_259 ?_
        refine j_iconst E (v := 1) dX12_runFeast_262 (by decide) ?_
        refine j_isub E dX12_runFeast_263 ?_
        refine j_icmp_ge E 302 dX12_runFeast_264 (by decide) (fun c33 => ?_) (fun c33 => ?_)
        · have h := h.1 c33
          refine j_sub [1, 2, 3, 4, 5, 6] rfl ?_
          exact m_X12_runFeast_b302 E EU K138 hK138 K203 hK203 K212 hK212 v0 v1 v2 v3 v4 v5 Z I L hZ hx hc hb kv0 h
        · have h := h.2 c33
          refine j_aload_n E dX12_runFeast_267 1 rfl ?_
          refine j_iload E dX12_runFeast_268 0 rfl ?_
          refine j_callV E [.int x32] [] (c_X12_onStep (gL G) (gD G) (gY G) v0 x32 Z I L _ hZ kv0 h) (gwV W_925 W_926 W_927 W_695 W_924) rfl ⟨rfl, fy_X12_onStep⟩ ⟨Nat.le_of_ble_eq_true rfl, Nat.le_of_ble_eq_true rfl⟩ (c := 12) rfl (by decide) kv0 rfl rfl (Nat.le_of_ble_eq_true rfl) (ju_kn hb) dX12_runFeast_270 (fun v34 Z35 I36 L37 q38 => ?_)
          obtain ⟨rfl, r40, rfl, h⟩ := q38
          show jJ G 7 273 [(6, .int x32), (0, .ref v0), (1, .int v1), (2, .int v2), (3, .int v3), (4, .int v4), (5, .int v5)] [.int r40] Z I36 L37 (jcz Z - jcz Z0) (jsz Z - jsz Z0)
          refine j_iload_n E dX12_runFeast_273 2 rfl ?_
          refine j_icmp_lt E 302 dX12_runFeast_274 (by decide) (fun c41 => ?_) (fun c41 => ?_)
          · have h := h.1 c41
            refine j_sub [1, 2, 3, 4, 5, 6] rfl ?_
            exact m_X12_runFeast_b302 E EU K138 hK138 K203 hK203 K212 hK212 v0 v1 v2 v3 v4 v5 Z I36 L37 hZ hx hc hb kv0 h
          · have h := h.2 c41
            refine j_aload_n E dX12_runFeast_277 1 rfl ?_
            obtain ⟨b42, eb42, kb42, lb42⟩ := sh_f hZ kv0 (j := 58) (k := 14) (m := 6) rfl
            have h := h b42 eb42
            refine j_getr E 12 58 rfl rfl (by decide) (by decide) (iw iT_12) rfl rfl (tw W_929) kv0 eb42 dX12_runFeast_278 ?_
            refine j_iload E dX12_runFeast_281 6 rfl ?_
            refine j_dup2_11 E dX12_runFeast_283 rfl rfl ?_
            obtain ⟨o43, h⟩ := h
            refine j_iald E kb42 (by rw [lb42]; exact o43) dX12_runFeast_284 ?_
            refine j_iconst E (v := 1) dX12_runFeast_285 (by decide) ?_
            refine j_iadd E dX12_runFeast_286 ?_
            obtain ⟨o44, h⟩ := h
            refine j_iast E kb42 (by rw [lb42]; exact o44) dX12_runFeast_287 ?_
            refine j_nmI (fun I45 eI45 => ?_)
            have h := h I45 eI45
            refine j_aload_n E dX12_runFeast_288 1 rfl ?_
            obtain ⟨b46, eb46, kb46, lb46⟩ := sh_f hZ kv0 (j := 59) (k := 14) (m := 24) rfl
            have h := h b46 eb46
            refine j_getr E 12 59 rfl rfl (by decide) (by decide) (iw iT_12) rfl rfl (tw W_930) kv0 eb46 dX12_runFeast_289 ?_
            refine j_iload E dX12_runFeast_292 0 rfl ?_
            refine j_dup2_11 E dX12_runFeast_294 rfl rfl ?_
            obtain ⟨o47, h⟩ := h
            refine j_iald E kb46 (by rw [lb46]; exact o47) dX12_runFeast_295 ?_
            refine j_iconst E (v := 1) dX12_runFeast_296 (by decide) ?_
            refine j_iadd E dX12_runFeast_297 ?_
            obtain ⟨o48, h⟩ := h
            refine j_iast E kb46 (by rw [lb46]; exact o48) dX12_runFeast_298 ?_
            refine j_nmI (fun I49 eI49 => ?_)
            have h := h I49 eI49
            refine j_goto E 338 dX12_runFeast_299 (by decide) ?_
            refine j_sub [1, 2, 3, 4, 5, 6] rfl ?_
            exact m_X12_runFeast_b338 E EU K138 hK138 K203 hK203 K212 hK212 v0 v1 v2 v3 v4 v5 Z I49 L37 hZ hx hc hb kv0 h
      · have h := h.2 c27
        refine j_goto E 338 dX12_runFeast_233 (by decide) ?_
        refine j_sub [0, 1, 2, 3, 4, 5] rfl ?_
        exact m_X12_runFeast_b338 E EU K138 hK138 K203 hK203 K212 hK212 v0 v1 v2 v3 v4 v5 Z I L hZ hx hc hb kv0 h
set_option maxRecDepth 100000 in
def f_X12_runFeast_L203 (B : Nat × Nat) (K138 : Nat → Int32 → Int32 → Int32 → jZ → jI → jL → Prop) (Q : Int32 → jZ → jI → jL → Prop) : Nat → Nat → Int32 → Int32 → Int32 → Int32 → jZ → jI → jL → Prop
  | 0 => fun _ _ _ _ _ _ _ _ => False
  | n + 1 => fun v0 v1 v2 v3 v4 Z I L => ((v4 < (-1 : Int32) → (∃ m353 : Nat, f_X12_runFeast_L353 B K138 Q m353 v0 v1 v2 v3 (0 : Int32) Z I L)) ∧ (¬ (v4 < (-1 : Int32)) → (∃ m212 : Nat, f_X12_runFeast_L212 B K138 (f_X12_runFeast_L203 B K138 Q n) Q m212 v0 v1 v2 v3 v4 (0 : Int32) Z I L)))
set_option maxHeartbeats 4000000 in
set_option maxRecDepth 100000 in
theorem m_X12_runFeast_L203 {G : jG} {Z0 : jZ} {B : Nat × Nat} {Q : Int32 → jZ → jI → jL → Prop} (E : jE G cX12_runFeast RX12 w_X12_runFeast 7 (some .int) (jrm B 107 2589 Z0) jRF) (EU : jEU G B Z0 (urtI B Z0 Q)) (K138 : Nat → Int32 → Int32 → Int32 → jZ → jI → jL → Prop) (hK138 : ∀ (v0 : Nat) (v1 : Int32) (v2 : Int32) (v3 : Int32) (Z : jZ) (I : jI) (L : jL), SH Z → jext Z0 Z → jle Z0 Z → jin B Z → jk Z v0 12 → K138 v0 v1 v2 v3 Z I L → jJ G 7 138 [(0, .ref v0), (1, .int v1), (2, .int v2), (3, .int v3)] [] Z I L (jcz Z - jcz Z0) (jsz Z - jsz Z0)) : ∀ (n : Nat) (v0 : Nat) (v1 : Int32) (v2 : Int32) (v3 : Int32) (v4 : Int32) (Z : jZ) (I : jI) (L : jL), SH Z → jext Z0 Z → jle Z0 Z → jin B Z → jk Z v0 12 → f_X12_runFeast_L203 B K138 Q n v0 v1 v2 v3 v4 Z I L → jJ G 7 203 [(0, .ref v0), (1, .int v1), (2, .int v2), (3, .int v3), (4, .int v4)] [] Z I L (jcz Z - jcz Z0) (jsz Z - jsz Z0) := by
  intro n
  induction n with
  | zero => intro v0 v1 v2 v3 v4 Z I L _ _ _ _ _ h; exact h.elim
  | succ n ih =>
    intro v0 v1 v2 v3 v4 Z I L hZ hx hc hb kv0 h
    have h : ((v4 < (-1 : Int32) → (∃ m353 : Nat, f_X12_runFeast_L353 B K138 Q m353 v0 v1 v2 v3 (0 : Int32) Z I L)) ∧ (¬ (v4 < (-1 : Int32)) → (∃ m212 : Nat, f_X12_runFeast_L212 B K138 (f_X12_runFeast_L203 B K138 Q n) Q m212 v0 v1 v2 v3 v4 (0 : Int32) Z I L))) := h
    obtain ⟨K203, eK203⟩ : ∃ K : Nat → Int32 → Int32 → Int32 → Int32 → jZ → jI → jL → Prop, K = f_X12_runFeast_L203 B K138 Q n := ⟨_, rfl⟩
    have hK203 := ih
    clear eK203 K203
    generalize f_X12_runFeast_L203 B K138 Q n = K203 at hK203 h
    refine j_iload E dX12_runFeast_203 4 rfl ?_
    refine j_iconst E (v := -1) dX12_runFeast_205 (by decide) ?_
    refine j_icmp_lt E 350 dX12_runFeast_206 (by decide) (fun c50 => ?_) (fun c50 => ?_)
    · have h := h.1 c50
      refine j_iconst E (v := 0) dX12_runFeast_350 (by decide) ?_
      refine j_istore E 4 [(4, .int (0 : Int32)), (0, .ref v0), (1, .int v1), (2, .int v2), (3, .int v3)] dX12_runFeast_351 (by decide) rfl ?_
      obtain ⟨n51, h⟩ := h
      refine j_sub [1, 2, 3, 4, 0] rfl ?_
      exact m_X12_runFeast_L353 E EU K138 hK138 n51 v0 v1 v2 v3 (0 : Int32) Z I L hZ hx hc hb kv0 h
    · have h := h.2 c50
      refine j_iconst E (v := 0) dX12_runFeast_209 (by decide) ?_
      refine j_istore E 5 [(5, .int (0 : Int32)), (0, .ref v0), (1, .int v1), (2, .int v2), (3, .int v3), (4, .int v4)] dX12_runFeast_210 (by decide) rfl ?_
      obtain ⟨n52, h⟩ := h
      refine j_sub [1, 2, 3, 4, 5, 0] rfl ?_
      exact m_X12_runFeast_L212 E EU K138 hK138 K203 hK203 n52 v0 v1 v2 v3 v4 (0 : Int32) Z I L hZ hx hc hb kv0 h
set_option maxRecDepth 100000 in
def f_X12_runFeast_b188 (B : Nat × Nat) (K138 : Nat → Int32 → Int32 → Int32 → jZ → jI → jL → Prop) (K145 : Nat → Int32 → Int32 → Int32 → Int32 → jZ → jI → jL → Prop) (Q : Int32 → jZ → jI → jL → Prop) (v0 : Nat) (v1 : Int32) (v2 : Int32) (v3 : Int32) (v4 : Int32) (s0 : Nat) (s1 : Int32) (s2 : Int32) (Z : jZ) (I : jI) (L : jL) : Prop := (vp_in s1 (jlen Z s0) ∧ (∀ I54 : jI, I54 = jpI I s0 s1.toNatClampNeg s2 → (∀ x55 : Int32, x55 = v4 + 1 → K145 v0 v1 v2 v3 x55 Z I54 L)))
set_option maxHeartbeats 4000000 in
set_option maxRecDepth 100000 in
theorem m_X12_runFeast_b188 {G : jG} {B : Nat × Nat} {Z0 : jZ} {Q : Int32 → jZ → jI → jL → Prop} (E : jE G cX12_runFeast RX12 w_X12_runFeast 7 (some .int) (jrm B 107 2589 Z0) jRF) (EU : jEU G B Z0 (urtI B Z0 Q)) (K138 : Nat → Int32 → Int32 → Int32 → jZ → jI → jL → Prop) (hK138 : ∀ (v0 : Nat) (v1 : Int32) (v2 : Int32) (v3 : Int32) (Z : jZ) (I : jI) (L : jL), SH Z → jext Z0 Z → jle Z0 Z → jin B Z → jk Z v0 12 → K138 v0 v1 v2 v3 Z I L → jJ G 7 138 [(0, .ref v0), (1, .int v1), (2, .int v2), (3, .int v3)] [] Z I L (jcz Z - jcz Z0) (jsz Z - jsz Z0)) (K145 : Nat → Int32 → Int32 → Int32 → Int32 → jZ → jI → jL → Prop) (hK145 : ∀ (v0 : Nat) (v1 : Int32) (v2 : Int32) (v3 : Int32) (v4 : Int32) (Z : jZ) (I : jI) (L : jL), SH Z → jext Z0 Z → jle Z0 Z → jin B Z → jk Z v0 12 → K145 v0 v1 v2 v3 v4 Z I L → jJ G 7 145 [(0, .ref v0), (1, .int v1), (2, .int v2), (3, .int v3), (4, .int v4)] [] Z I L (jcz Z - jcz Z0) (jsz Z - jsz Z0)) (v0 : Nat) (v1 : Int32) (v2 : Int32) (v3 : Int32) (v4 : Int32) (s0 : Nat) (s1 : Int32) (s2 : Int32) (Z : jZ) (I : jI) (L : jL) (hZ : SH Z) (hx : jext Z0 Z) (hc : jle Z0 Z) (hb : jin B Z) (kv0 : jk Z v0 12) (ks0 : jk Z s0 14) (h : f_X12_runFeast_b188 B K138 K145 Q v0 v1 v2 v3 v4 s0 s1 s2 Z I L) : jJ G 7 188 [(0, .ref v0), (1, .int v1), (2, .int v2), (3, .int v3), (4, .int v4)] [.int s2, .int s1, .ref s0] Z I L (jcz Z - jcz Z0) (jsz Z - jsz Z0) := by
  obtain ⟨o53, h⟩ := h
  refine j_iast E ks0 o53 dX12_runFeast_188 ?_
  refine j_nmI (fun I54 eI54 => ?_)
  have h := h I54 eI54
  obtain ⟨x55, ex55⟩ : ∃ y : Int32, y = v4 + 1 := ⟨_, rfl⟩
  have h := h x55 ex55
  refine j_iinc E x55 [(4, .int x55), (0, .ref v0), (1, .int v1), (2, .int v2), (3, .int v3)] dX12_runFeast_189 4 rfl (by rw [ex55]; rfl) (by decide) rfl ?_
  refine j_goto E 145 dX12_runFeast_192 (by decide) ?_
  refine j_sub [1, 2, 3, 4, 0] rfl ?_
  exact hK145 v0 v1 v2 v3 x55 Z I54 L hZ hx hc hb kv0 h
set_option maxRecDepth 100000 in
def f_X12_runFeast_L145 (B : Nat × Nat) (K138 : Nat → Int32 → Int32 → Int32 → jZ → jI → jL → Prop) (Q : Int32 → jZ → jI → jL → Prop) : Nat → Nat → Int32 → Int32 → Int32 → Int32 → jZ → jI → jL → Prop
  | 0 => fun _ _ _ _ _ _ _ _ => False
  | n + 1 => fun v0 v1 v2 v3 v4 Z I L => (((I v0 8) ≤ v4 → (∀ x57 : Int32, x57 = ((I v0 0) - (1 : Int32)) → (∃ m203 : Nat, f_X12_runFeast_L203 B K138 Q m203 v0 v1 v2 v3 x57 Z I L))) ∧ (¬ ((I v0 8) ≤ v4) → (∀ b59 : Nat, jr Z v0 61 = some b59 → (∀ b60 : Nat, jr Z v0 57 = some b60 → (vp_in v4 6 ∧ (∀ b62 : Nat, jr Z v0 56 = some b62 → (vp_in v4 6 ∧ (((I b62 v4.toNatClampNeg) ≤ (I b60 v4.toNatClampNeg) → f_X12_runFeast_b188 B K138 (f_X12_runFeast_L145 B K138 Q n) Q v0 v1 v2 v3 v4 b59 v4 (-2 : Int32) Z I L) ∧ (¬ ((I b62 v4.toNatClampNeg) ≤ (I b60 v4.toNatClampNeg)) → (f_X12_placeOf v0 v4 Z I L (fun r71 I67 L68 => f_X12_runFeast_b188 B K138 (f_X12_runFeast_L145 B K138 Q n) Q v0 v1 v2 v3 v4 b59 v4 r71 Z I67 L68)))))))))))
set_option maxHeartbeats 4000000 in
set_option maxRecDepth 100000 in
theorem m_X12_runFeast_L145 {G : jG} {Z0 : jZ} {B : Nat × Nat} {Q : Int32 → jZ → jI → jL → Prop} (E : jE G cX12_runFeast RX12 w_X12_runFeast 7 (some .int) (jrm B 107 2589 Z0) jRF) (EU : jEU G B Z0 (urtI B Z0 Q)) (K138 : Nat → Int32 → Int32 → Int32 → jZ → jI → jL → Prop) (hK138 : ∀ (v0 : Nat) (v1 : Int32) (v2 : Int32) (v3 : Int32) (Z : jZ) (I : jI) (L : jL), SH Z → jext Z0 Z → jle Z0 Z → jin B Z → jk Z v0 12 → K138 v0 v1 v2 v3 Z I L → jJ G 7 138 [(0, .ref v0), (1, .int v1), (2, .int v2), (3, .int v3)] [] Z I L (jcz Z - jcz Z0) (jsz Z - jsz Z0)) : ∀ (n : Nat) (v0 : Nat) (v1 : Int32) (v2 : Int32) (v3 : Int32) (v4 : Int32) (Z : jZ) (I : jI) (L : jL), SH Z → jext Z0 Z → jle Z0 Z → jin B Z → jk Z v0 12 → f_X12_runFeast_L145 B K138 Q n v0 v1 v2 v3 v4 Z I L → jJ G 7 145 [(0, .ref v0), (1, .int v1), (2, .int v2), (3, .int v3), (4, .int v4)] [] Z I L (jcz Z - jcz Z0) (jsz Z - jsz Z0) := by
  intro n
  induction n with
  | zero => intro v0 v1 v2 v3 v4 Z I L _ _ _ _ _ h; exact h.elim
  | succ n ih =>
    intro v0 v1 v2 v3 v4 Z I L hZ hx hc hb kv0 h
    have h : (((I v0 8) ≤ v4 → (∀ x57 : Int32, x57 = ((I v0 0) - (1 : Int32)) → (∃ m203 : Nat, f_X12_runFeast_L203 B K138 Q m203 v0 v1 v2 v3 x57 Z I L))) ∧ (¬ ((I v0 8) ≤ v4) → (∀ b59 : Nat, jr Z v0 61 = some b59 → (∀ b60 : Nat, jr Z v0 57 = some b60 → (vp_in v4 6 ∧ (∀ b62 : Nat, jr Z v0 56 = some b62 → (vp_in v4 6 ∧ (((I b62 v4.toNatClampNeg) ≤ (I b60 v4.toNatClampNeg) → f_X12_runFeast_b188 B K138 (f_X12_runFeast_L145 B K138 Q n) Q v0 v1 v2 v3 v4 b59 v4 (-2 : Int32) Z I L) ∧ (¬ ((I b62 v4.toNatClampNeg) ≤ (I b60 v4.toNatClampNeg)) → (f_X12_placeOf v0 v4 Z I L (fun r71 I67 L68 => f_X12_runFeast_b188 B K138 (f_X12_runFeast_L145 B K138 Q n) Q v0 v1 v2 v3 v4 b59 v4 r71 Z I67 L68))))))))))) := h
    obtain ⟨K145, eK145⟩ : ∃ K : Nat → Int32 → Int32 → Int32 → Int32 → jZ → jI → jL → Prop, K = f_X12_runFeast_L145 B K138 Q n := ⟨_, rfl⟩
    have hK145 := ih
    clear eK145 K145
    generalize f_X12_runFeast_L145 B K138 Q n = K145 at hK145 h
    refine j_iload E dX12_runFeast_145 4 rfl ?_
    refine j_aload_n E dX12_runFeast_147 0 rfl ?_
    refine j_geti E 12 8 rfl rfl (by decide) (by decide) (iw iT_12) rfl rfl (tw W_698) kv0 dX12_runFeast_148 ?_
    refine j_icmp_ge E 195 dX12_runFeast_151 (by decide) (fun c56 => ?_) (fun c56 => ?_)
    · have h := h.1 c56
      refine j_aload_n E dX12_runFeast_195 0 rfl ?_
      refine j_geti E 12 0 rfl rfl (by decide) (by decide) (iw iT_12) rfl rfl (tw W_693) kv0 dX12_runFeast_196 ?_
      refine j_iconst E (v := 1) dX12_runFeast_199 (by decide) ?_
      refine j_isub E dX12_runFeast_200 ?_
      refine j_topi (fun x57 ex57 => ?_)
      have h := h x57 ex57
      refine j_istore E 4 [(4, .int x57), (0, .ref v0), (1, .int v1), (2, .int v2), (3, .int v3)] dX12_runFeast_201 (by decide) rfl ?_
      obtain ⟨n58, h⟩ := h
      refine j_sub [1, 2, 3, 4, 0] rfl ?_
      exact m_X12_runFeast_L203 E EU K138 hK138 n58 v0 v1 v2 v3 x57 Z I L hZ hx hc hb kv0 h
    · have h := h.2 c56
      refine j_aload_n E dX12_runFeast_154 0 rfl ?_
      obtain ⟨b59, eb59, kb59, lb59⟩ := sh_f hZ kv0 (j := 61) (k := 14) (m := 6) rfl
      have h := h b59 eb59
      refine j_getr E 12 61 rfl rfl (by decide) (by decide) (iw iT_12) rfl rfl (tw W_928) kv0 eb59 dX12_runFeast_155 ?_
      refine j_iload E dX12_runFeast_158 4 rfl ?_
      refine j_aload_n E dX12_runFeast_160 0 rfl ?_
      obtain ⟨b60, eb60, kb60, lb60⟩ := sh_f hZ kv0 (j := 57) (k := 14) (m := 6) rfl
      have h := h b60 eb60
      refine j_getr E 12 57 rfl rfl (by decide) (by decide) (iw iT_12) rfl rfl (tw W_916) kv0 eb60 dX12_runFeast_161 ?_
      refine j_iload E dX12_runFeast_164 4 rfl ?_
      obtain ⟨o61, h⟩ := h
      refine j_iald E kb60 (by rw [lb60]; exact o61) dX12_runFeast_166 ?_
      refine j_aload_n E dX12_runFeast_167 0 rfl ?_
      obtain ⟨b62, eb62, kb62, lb62⟩ := sh_f hZ kv0 (j := 56) (k := 14) (m := 6) rfl
      have h := h b62 eb62
      refine j_getr E 12 56 rfl rfl (by decide) (by decide) (iw iT_12) rfl rfl (tw W_918) kv0 eb62 dX12_runFeast_168 ?_
      refine j_iload E dX12_runFeast_171 4 rfl ?_
      obtain ⟨o63, h⟩ := h
      refine j_iald E kb62 (by rw [lb62]; exact o63) dX12_runFeast_173 ?_
      refine j_icmp_ge E 186 dX12_runFeast_174 (by decide) (fun c64 => ?_) (fun c64 => ?_)
      · have h := h.1 c64
        refine j_bipush E (v := -2) dX12_runFeast_186 (by decide) ?_
        refine j_sub [0, 1, 2, 3, 4] rfl ?_
        exact m_X12_runFeast_b188 E EU K138 hK138 K145 hK145 v0 v1 v2 v3 v4 b59 v4 (-2 : Int32) Z I L hZ hx hc hb kv0 kb59 h
      · have h := h.2 c64
        refine j_aload_n E dX12_runFeast_177 0 rfl ?_
        refine j_iload E dX12_runFeast_178 4 rfl ?_
        refine j_callV E [.int v4] [.int v4, .ref b59] (c_X12_placeOf (gL G) (gD G) (gY G) v0 v4 Z I L _ hZ kv0 h) (gwV W_920 W_921 W_922 W_695 W_919) rfl ⟨rfl, fy_X12_placeOf⟩ ⟨Nat.le_of_ble_eq_true rfl, Nat.le_of_ble_eq_true rfl⟩ (c := 12) rfl (by decide) kv0 rfl rfl (Nat.le_of_ble_eq_true rfl) (ju_kn hb) dX12_runFeast_180 (fun v65 Z66 I67 L68 q69 => ?_)
        obtain ⟨rfl, r71, rfl, h⟩ := q69
        show jJ G 7 183 [(0, .ref v0), (1, .int v1), (2, .int v2), (3, .int v3), (4, .int v4)] [.int r71, .int v4, .ref b59] Z I67 L68 (jcz Z - jcz Z0) (jsz Z - jsz Z0)
        refine j_goto E 188 dX12_runFeast_183 (by decide) ?_
        refine j_sub [0, 1, 2, 3, 4] rfl ?_
        exact m_X12_runFeast_b188 E EU K138 hK138 K145 hK145 v0 v1 v2 v3 v4 b59 v4 r71 Z I67 L68 hZ hx hc hb kv0 kb59 h
set_option maxRecDepth 100000 in
def f_X12_runFeast_L138 (B : Nat × Nat)  (Q : Int32 → jZ → jI → jL → Prop) : Nat → Nat → Int32 → Int32 → Int32 → jZ → jI → jL → Prop
  | 0 => fun _ _ _ _ _ _ _ => False
  | n + 1 => fun v0 v1 v2 v3 Z I L => ((v2 ≤ 0 → Q v3 Z I L) ∧ (¬ (v2 ≤ 0) → (∃ m145 : Nat, f_X12_runFeast_L145 B (f_X12_runFeast_L138 B Q n) Q m145 v0 v1 v2 v3 (0 : Int32) Z I L)))
set_option maxHeartbeats 4000000 in
set_option maxRecDepth 100000 in
theorem m_X12_runFeast_L138 {G : jG} {Z0 : jZ} {B : Nat × Nat} {Q : Int32 → jZ → jI → jL → Prop} (E : jE G cX12_runFeast RX12 w_X12_runFeast 7 (some .int) (jrm B 107 2589 Z0) jRF) (EU : jEU G B Z0 (urtI B Z0 Q))  : ∀ (n : Nat) (v0 : Nat) (v1 : Int32) (v2 : Int32) (v3 : Int32) (Z : jZ) (I : jI) (L : jL), SH Z → jext Z0 Z → jle Z0 Z → jin B Z → jk Z v0 12 → f_X12_runFeast_L138 B  Q n v0 v1 v2 v3 Z I L → jJ G 7 138 [(0, .ref v0), (1, .int v1), (2, .int v2), (3, .int v3)] [] Z I L (jcz Z - jcz Z0) (jsz Z - jsz Z0) := by
  intro n
  induction n with
  | zero => intro v0 v1 v2 v3 Z I L _ _ _ _ _ h; exact h.elim
  | succ n ih =>
    intro v0 v1 v2 v3 Z I L hZ hx hc hb kv0 h
    have h : ((v2 ≤ 0 → Q v3 Z I L) ∧ (¬ (v2 ≤ 0) → (∃ m145 : Nat, f_X12_runFeast_L145 B (f_X12_runFeast_L138 B Q n) Q m145 v0 v1 v2 v3 (0 : Int32) Z I L))) := h
    obtain ⟨K138, eK138⟩ : ∃ K : Nat → Int32 → Int32 → Int32 → jZ → jI → jL → Prop, K = f_X12_runFeast_L138 B  Q n := ⟨_, rfl⟩
    have hK138 := ih
    clear eK138 K138
    generalize f_X12_runFeast_L138 B  Q n = K138 at hK138 h
    refine j_iload_n E dX12_runFeast_138 2 rfl ?_
    refine j_if_le E 393 dX12_runFeast_139 (by decide) (fun c72 => ?_) (fun c72 => ?_)
    · have h := h.1 c72
      refine j_iload_n E dX12_runFeast_393 3 rfl ?_
      exact ju_ireturn E EU hc hb ⟨hx, hZ, hb, _, rfl, h⟩ dX12_runFeast_394
    · have h := h.2 c72
      refine j_iconst E (v := 0) dX12_runFeast_142 (by decide) ?_
      refine j_istore E 4 [(4, .int (0 : Int32)), (0, .ref v0), (1, .int v1), (2, .int v2), (3, .int v3)] dX12_runFeast_143 (by decide) rfl ?_
      obtain ⟨n73, h⟩ := h
      refine j_sub [1, 2, 3, 4, 0] rfl ?_
      exact m_X12_runFeast_L145 E EU K138 hK138 n73 v0 v1 v2 v3 (0 : Int32) Z I L hZ hx hc hb kv0 h
set_option maxRecDepth 100000 in
def f_X12_runFeast_b128 (B : Nat × Nat) (K30 : Nat → Int32 → Int32 → Int32 → jZ → jI → jL → Prop) (Q : Int32 → jZ → jI → jL → Prop) (v0 : Nat) (v1 : Int32) (v3 : Int32) (s0 : Int32) (s1 : Int32) (Z : jZ) (I : jI) (L : jL) : Prop := (∀ x74 : Int32, x74 = (s0 + s1) → (∀ x75 : Int32, x75 = v3 + 1 → K30 v0 v1 x74 x75 Z I L))
set_option maxHeartbeats 4000000 in
set_option maxRecDepth 100000 in
theorem m_X12_runFeast_b128 {G : jG} {B : Nat × Nat} {Z0 : jZ} {Q : Int32 → jZ → jI → jL → Prop} (E : jE G cX12_runFeast RX12 w_X12_runFeast 7 (some .int) (jrm B 107 2589 Z0) jRF) (EU : jEU G B Z0 (urtI B Z0 Q)) (K30 : Nat → Int32 → Int32 → Int32 → jZ → jI → jL → Prop) (hK30 : ∀ (v0 : Nat) (v1 : Int32) (v2 : Int32) (v3 : Int32) (Z : jZ) (I : jI) (L : jL), SH Z → jext Z0 Z → jle Z0 Z → jin B Z → jk Z v0 12 → K30 v0 v1 v2 v3 Z I L → jJ G 7 30 [(0, .ref v0), (1, .int v1), (2, .int v2), (3, .int v3)] [] Z I L (jcz Z - jcz Z0) (jsz Z - jsz Z0)) (v0 : Nat) (v1 : Int32) (v3 : Int32) (s0 : Int32) (s1 : Int32) (Z : jZ) (I : jI) (L : jL) (hZ : SH Z) (hx : jext Z0 Z) (hc : jle Z0 Z) (hb : jin B Z) (kv0 : jk Z v0 12) (h : f_X12_runFeast_b128 B K30 Q v0 v1 v3 s0 s1 Z I L) : jJ G 7 128 [(0, .ref v0), (1, .int v1), (3, .int v3)] [.int s1, .int s0] Z I L (jcz Z - jcz Z0) (jsz Z - jsz Z0) := by
  refine j_iadd E dX12_runFeast_128 ?_
  refine j_topi (fun x74 ex74 => ?_)
  have h := h x74 ex74
  refine j_istore_n E 2 [(2, .int x74), (0, .ref v0), (1, .int v1), (3, .int v3)] dX12_runFeast_129 rfl (by decide) rfl ?_
  obtain ⟨x75, ex75⟩ : ∃ y : Int32, y = v3 + 1 := ⟨_, rfl⟩
  have h := h x75 ex75
  refine j_iinc E x75 [(3, .int x75), (2, .int x74), (0, .ref v0), (1, .int v1)] dX12_runFeast_130 3 rfl (by rw [ex75]; rfl) (by decide) rfl ?_
  refine j_goto E 30 dX12_runFeast_133 (by decide) ?_
  refine j_sub [2, 3, 1, 0] rfl ?_
  exact hK30 v0 v1 x74 x75 Z I L hZ hx hc hb kv0 h
set_option maxRecDepth 100000 in
def f_X12_runFeast_L77 (B : Nat × Nat) (K30 : Nat → Int32 → Int32 → Int32 → jZ → jI → jL → Prop) (Q : Int32 → jZ → jI → jL → Prop) : Nat → Nat → Int32 → Int32 → Int32 → Int32 → jZ → jI → jL → Prop
  | 0 => fun _ _ _ _ _ _ _ _ => False
  | n + 1 => fun v0 v1 v2 v3 v4 Z I L => (∀ b76 : Nat, jr Z v0 56 = some b76 → (vp_in v3 6 ∧ (((I b76 v3.toNatClampNeg) ≤ v4 → (∀ b79 : Nat, jr Z v0 56 = some b79 → (vp_in v3 6 ∧ (((I b79 v3.toNatClampNeg) ≤ 0 → f_X12_runFeast_b128 B K30 Q v0 v1 v3 v2 (0 : Int32) Z I L) ∧ (¬ ((I b79 v3.toNatClampNeg) ≤ 0) → f_X12_runFeast_b128 B K30 Q v0 v1 v3 v2 (1 : Int32) Z I L))))) ∧ (¬ ((I b76 v3.toNatClampNeg) ≤ v4) → (∀ b82 : Nat, jr Z v0 55 = some b82 → (∀ b83 : Nat, jr Z v0 44 = some b83 → (vp_in v4 24 ∧ (vp_in (((24 : Int32) * v3) + v4) 144 ∧ (∀ I86 : jI, I86 = jpI I b82 (((24 : Int32) * v3) + v4).toNatClampNeg (I b83 v4.toNatClampNeg) → (∀ x87 : Int32, x87 = v4 + 1 → (f_X12_runFeast_L77 B K30 Q n) v0 v1 v2 v3 x87 Z I86 L))))))))))
set_option maxHeartbeats 4000000 in
set_option maxRecDepth 100000 in
theorem m_X12_runFeast_L77 {G : jG} {Z0 : jZ} {B : Nat × Nat} {Q : Int32 → jZ → jI → jL → Prop} (E : jE G cX12_runFeast RX12 w_X12_runFeast 7 (some .int) (jrm B 107 2589 Z0) jRF) (EU : jEU G B Z0 (urtI B Z0 Q)) (K30 : Nat → Int32 → Int32 → Int32 → jZ → jI → jL → Prop) (hK30 : ∀ (v0 : Nat) (v1 : Int32) (v2 : Int32) (v3 : Int32) (Z : jZ) (I : jI) (L : jL), SH Z → jext Z0 Z → jle Z0 Z → jin B Z → jk Z v0 12 → K30 v0 v1 v2 v3 Z I L → jJ G 7 30 [(0, .ref v0), (1, .int v1), (2, .int v2), (3, .int v3)] [] Z I L (jcz Z - jcz Z0) (jsz Z - jsz Z0)) : ∀ (n : Nat) (v0 : Nat) (v1 : Int32) (v2 : Int32) (v3 : Int32) (v4 : Int32) (Z : jZ) (I : jI) (L : jL), SH Z → jext Z0 Z → jle Z0 Z → jin B Z → jk Z v0 12 → f_X12_runFeast_L77 B K30 Q n v0 v1 v2 v3 v4 Z I L → jJ G 7 77 [(0, .ref v0), (1, .int v1), (2, .int v2), (3, .int v3), (4, .int v4)] [] Z I L (jcz Z - jcz Z0) (jsz Z - jsz Z0) := by
  intro n
  induction n with
  | zero => intro v0 v1 v2 v3 v4 Z I L _ _ _ _ _ h; exact h.elim
  | succ n ih =>
    intro v0 v1 v2 v3 v4 Z I L hZ hx hc hb kv0 h
    have h : (∀ b76 : Nat, jr Z v0 56 = some b76 → (vp_in v3 6 ∧ (((I b76 v3.toNatClampNeg) ≤ v4 → (∀ b79 : Nat, jr Z v0 56 = some b79 → (vp_in v3 6 ∧ (((I b79 v3.toNatClampNeg) ≤ 0 → f_X12_runFeast_b128 B K30 Q v0 v1 v3 v2 (0 : Int32) Z I L) ∧ (¬ ((I b79 v3.toNatClampNeg) ≤ 0) → f_X12_runFeast_b128 B K30 Q v0 v1 v3 v2 (1 : Int32) Z I L))))) ∧ (¬ ((I b76 v3.toNatClampNeg) ≤ v4) → (∀ b82 : Nat, jr Z v0 55 = some b82 → (∀ b83 : Nat, jr Z v0 44 = some b83 → (vp_in v4 24 ∧ (vp_in (((24 : Int32) * v3) + v4) 144 ∧ (∀ I86 : jI, I86 = jpI I b82 (((24 : Int32) * v3) + v4).toNatClampNeg (I b83 v4.toNatClampNeg) → (∀ x87 : Int32, x87 = v4 + 1 → (f_X12_runFeast_L77 B K30 Q n) v0 v1 v2 v3 x87 Z I86 L)))))))))) := h
    obtain ⟨K77, eK77⟩ : ∃ K : Nat → Int32 → Int32 → Int32 → Int32 → jZ → jI → jL → Prop, K = f_X12_runFeast_L77 B K30 Q n := ⟨_, rfl⟩
    have hK77 := ih
    clear eK77 K77
    generalize f_X12_runFeast_L77 B K30 Q n = K77 at hK77 h
    refine j_iload E dX12_runFeast_77 4 rfl ?_
    refine j_aload_n E dX12_runFeast_79 0 rfl ?_
    obtain ⟨b76, eb76, kb76, lb76⟩ := sh_f hZ kv0 (j := 56) (k := 14) (m := 6) rfl
    have h := h b76 eb76
    refine j_getr E 12 56 rfl rfl (by decide) (by decide) (iw iT_12) rfl rfl (tw W_918) kv0 eb76 dX12_runFeast_80 ?_
    refine j_iload_n E dX12_runFeast_83 3 rfl ?_
    obtain ⟨o77, h⟩ := h
    refine j_iald E kb76 (by rw [lb76]; exact o77) dX12_runFeast_84 ?_
    refine j_icmp_ge E 113 dX12_runFeast_85 (by decide) (fun c78 => ?_) (fun c78 => ?_)
    · have h := h.1 c78
      refine j_iload_n E dX12_runFeast_113 2 rfl ?_
      refine j_aload_n E dX12_runFeast_114 0 rfl ?_
      obtain ⟨b79, eb79, kb79, lb79⟩ := sh_f hZ kv0 (j := 56) (k := 14) (m := 6) rfl
      have h := h b79 eb79
      refine j_getr E 12 56 rfl rfl (by decide) (by decide) (iw iT_12) rfl rfl (tw W_918) kv0 eb79 dX12_runFeast_115 ?_
      refine j_iload_n E dX12_runFeast_118 3 rfl ?_
      obtain ⟨o80, h⟩ := h
      refine j_iald E kb79 (by rw [lb79]; exact o80) dX12_runFeast_119 ?_
      refine j_if_le E 127 dX12_runFeast_120 (by decide) (fun c81 => ?_) (fun c81 => ?_)
      · have h := h.1 c81
        refine j_iconst E (v := 0) dX12_runFeast_127 (by decide) ?_
        refine j_sub [0, 1, 3] rfl ?_
        exact m_X12_runFeast_b128 E EU K30 hK30 v0 v1 v3 v2 (0 : Int32) Z I L hZ hx hc hb kv0 h
      · have h := h.2 c81
        refine j_iconst E (v := 1) dX12_runFeast_123 (by decide) ?_
        refine j_goto E 128 dX12_runFeast_124 (by decide) ?_
        refine j_sub [0, 1, 3] rfl ?_
        exact m_X12_runFeast_b128 E EU K30 hK30 v0 v1 v3 v2 (1 : Int32) Z I L hZ hx hc hb kv0 h
    · have h := h.2 c78
      refine j_aload_n E dX12_runFeast_88 0 rfl ?_
      obtain ⟨b82, eb82, kb82, lb82⟩ := sh_f hZ kv0 (j := 55) (k := 14) (m := 144) rfl
      have h := h b82 eb82
      refine j_getr E 12 55 rfl rfl (by decide) (by decide) (iw iT_12) rfl rfl (tw W_917) kv0 eb82 dX12_runFeast_89 ?_
      refine j_bipush E (v := 24) dX12_runFeast_92 (by decide) ?_
      refine j_iload_n E dX12_runFeast_94 3 rfl ?_
      refine j_imul E dX12_runFeast_95 ?_
      refine j_iload E dX12_runFeast_96 4 rfl ?_
      refine j_iadd E dX12_runFeast_98 ?_
      refine j_aload_n E dX12_runFeast_99 0 rfl ?_
      obtain ⟨b83, eb83, kb83, lb83⟩ := sh_f hZ kv0 (j := 44) (k := 14) (m := 24) rfl
      have h := h b83 eb83
      refine j_getr E 12 44 rfl rfl (by decide) (by decide) (iw iT_12) rfl rfl (tw W_851) kv0 eb83 dX12_runFeast_100 ?_
      refine j_iload E dX12_runFeast_103 4 rfl ?_
      obtain ⟨o84, h⟩ := h
      refine j_iald E kb83 (by rw [lb83]; exact o84) dX12_runFeast_105 ?_
      obtain ⟨o85, h⟩ := h
      refine j_iast E kb82 (by rw [lb82]; exact o85) dX12_runFeast_106 ?_
      refine j_nmI (fun I86 eI86 => ?_)
      have h := h I86 eI86
      obtain ⟨x87, ex87⟩ : ∃ y : Int32, y = v4 + 1 := ⟨_, rfl⟩
      have h := h x87 ex87
      refine j_iinc E x87 [(4, .int x87), (0, .ref v0), (1, .int v1), (2, .int v2), (3, .int v3)] dX12_runFeast_107 4 rfl (by rw [ex87]; rfl) (by decide) rfl ?_
      refine j_goto E 77 dX12_runFeast_110 (by decide) ?_
      refine j_sub [1, 2, 3, 4, 0] rfl ?_
      exact hK77 v0 v1 v2 v3 x87 Z I86 L hZ hx hc hb kv0 h
set_option maxRecDepth 100000 in
def f_X12_runFeast_b73 (B : Nat × Nat) (K30 : Nat → Int32 → Int32 → Int32 → jZ → jI → jL → Prop) (Q : Int32 → jZ → jI → jL → Prop) (v0 : Nat) (v1 : Int32) (v2 : Int32) (v3 : Int32) (s0 : Nat) (s1 : Int32) (s2 : Int32) (Z : jZ) (I : jI) (L : jL) : Prop := (vp_in s1 (jlen Z s0) ∧ (∀ I89 : jI, I89 = jpI I s0 s1.toNatClampNeg s2 → (∃ m77 : Nat, f_X12_runFeast_L77 B K30 Q m77 v0 v1 v2 v3 (0 : Int32) Z I89 L)))
set_option maxHeartbeats 4000000 in
set_option maxRecDepth 100000 in
theorem m_X12_runFeast_b73 {G : jG} {B : Nat × Nat} {Z0 : jZ} {Q : Int32 → jZ → jI → jL → Prop} (E : jE G cX12_runFeast RX12 w_X12_runFeast 7 (some .int) (jrm B 107 2589 Z0) jRF) (EU : jEU G B Z0 (urtI B Z0 Q)) (K30 : Nat → Int32 → Int32 → Int32 → jZ → jI → jL → Prop) (hK30 : ∀ (v0 : Nat) (v1 : Int32) (v2 : Int32) (v3 : Int32) (Z : jZ) (I : jI) (L : jL), SH Z → jext Z0 Z → jle Z0 Z → jin B Z → jk Z v0 12 → K30 v0 v1 v2 v3 Z I L → jJ G 7 30 [(0, .ref v0), (1, .int v1), (2, .int v2), (3, .int v3)] [] Z I L (jcz Z - jcz Z0) (jsz Z - jsz Z0)) (v0 : Nat) (v1 : Int32) (v2 : Int32) (v3 : Int32) (s0 : Nat) (s1 : Int32) (s2 : Int32) (Z : jZ) (I : jI) (L : jL) (hZ : SH Z) (hx : jext Z0 Z) (hc : jle Z0 Z) (hb : jin B Z) (kv0 : jk Z v0 12) (ks0 : jk Z s0 14) (h : f_X12_runFeast_b73 B K30 Q v0 v1 v2 v3 s0 s1 s2 Z I L) : jJ G 7 73 [(0, .ref v0), (1, .int v1), (2, .int v2), (3, .int v3)] [.int s2, .int s1, .ref s0] Z I L (jcz Z - jcz Z0) (jsz Z - jsz Z0) := by
  obtain ⟨o88, h⟩ := h
  refine j_iast E ks0 o88 dX12_runFeast_73 ?_
  refine j_nmI (fun I89 eI89 => ?_)
  have h := h I89 eI89
  refine j_iconst E (v := 0) dX12_runFeast_74 (by decide) ?_
  refine j_istore E 4 [(4, .int (0 : Int32)), (0, .ref v0), (1, .int v1), (2, .int v2), (3, .int v3)] dX12_runFeast_75 (by decide) rfl ?_
  obtain ⟨n90, h⟩ := h
  refine j_sub [1, 2, 3, 4, 0] rfl ?_
  exact m_X12_runFeast_L77 E EU K30 hK30 n90 v0 v1 v2 v3 (0 : Int32) Z I89 L hZ hx hc hb kv0 h
set_option maxRecDepth 100000 in
def f_X12_runFeast_L30 (B : Nat × Nat)  (Q : Int32 → jZ → jI → jL → Prop) : Nat → Nat → Int32 → Int32 → Int32 → jZ → jI → jL → Prop
  | 0 => fun _ _ _ _ _ _ _ => False
  | n + 1 => fun v0 v1 v2 v3 Z I L => (((I v0 8) ≤ v3 → (∃ m138 : Nat, f_X12_runFeast_L138 B  Q m138 v0 v1 v2 (0 : Int32) Z I L)) ∧ (¬ ((I v0 8) ≤ v3) → (∀ b93 : Nat, jr Z v0 57 = some b93 → (vp_in v3 6 ∧ (∀ I95 : jI, I95 = jpI I b93 v3.toNatClampNeg (0 : Int32) → (∀ b96 : Nat, jr Z v0 58 = some b96 → (vp_in v3 6 ∧ (∀ I98 : jI, I98 = jpI I95 b96 v3.toNatClampNeg (0 : Int32) → (∀ b99 : Nat, jr Z v0 56 = some b99 → (f_X12_findClimb B v0 v3 Z I98 L (fun r106 Z101 I102 L103 => ((r106 = 0 → f_X12_runFeast_b73 B (f_X12_runFeast_L30 B Q n) Q v0 v1 v2 v3 b99 v3 (0 : Int32) Z101 I102 L103) ∧ (¬ (r106 = 0) → f_X12_runFeast_b73 B (f_X12_runFeast_L30 B Q n) Q v0 v1 v2 v3 b99 v3 (I102 v0 43) Z101 I102 L103)))))))))))))
set_option maxHeartbeats 4000000 in
set_option maxRecDepth 100000 in
theorem m_X12_runFeast_L30 {G : jG} {Z0 : jZ} {B : Nat × Nat} {Q : Int32 → jZ → jI → jL → Prop} (E : jE G cX12_runFeast RX12 w_X12_runFeast 7 (some .int) (jrm B 107 2589 Z0) jRF) (EU : jEU G B Z0 (urtI B Z0 Q))  : ∀ (n : Nat) (v0 : Nat) (v1 : Int32) (v2 : Int32) (v3 : Int32) (Z : jZ) (I : jI) (L : jL), SH Z → jext Z0 Z → jle Z0 Z → jin B Z → jk Z v0 12 → f_X12_runFeast_L30 B  Q n v0 v1 v2 v3 Z I L → jJ G 7 30 [(0, .ref v0), (1, .int v1), (2, .int v2), (3, .int v3)] [] Z I L (jcz Z - jcz Z0) (jsz Z - jsz Z0) := by
  intro n
  induction n with
  | zero => intro v0 v1 v2 v3 Z I L _ _ _ _ _ h; exact h.elim
  | succ n ih =>
    intro v0 v1 v2 v3 Z I L hZ hx hc hb kv0 h
    have h : (((I v0 8) ≤ v3 → (∃ m138 : Nat, f_X12_runFeast_L138 B  Q m138 v0 v1 v2 (0 : Int32) Z I L)) ∧ (¬ ((I v0 8) ≤ v3) → (∀ b93 : Nat, jr Z v0 57 = some b93 → (vp_in v3 6 ∧ (∀ I95 : jI, I95 = jpI I b93 v3.toNatClampNeg (0 : Int32) → (∀ b96 : Nat, jr Z v0 58 = some b96 → (vp_in v3 6 ∧ (∀ I98 : jI, I98 = jpI I95 b96 v3.toNatClampNeg (0 : Int32) → (∀ b99 : Nat, jr Z v0 56 = some b99 → (f_X12_findClimb B v0 v3 Z I98 L (fun r106 Z101 I102 L103 => ((r106 = 0 → f_X12_runFeast_b73 B (f_X12_runFeast_L30 B Q n) Q v0 v1 v2 v3 b99 v3 (0 : Int32) Z101 I102 L103) ∧ (¬ (r106 = 0) → f_X12_runFeast_b73 B (f_X12_runFeast_L30 B Q n) Q v0 v1 v2 v3 b99 v3 (I102 v0 43) Z101 I102 L103))))))))))))) := h
    obtain ⟨K30, eK30⟩ : ∃ K : Nat → Int32 → Int32 → Int32 → jZ → jI → jL → Prop, K = f_X12_runFeast_L30 B  Q n := ⟨_, rfl⟩
    have hK30 := ih
    clear eK30 K30
    generalize f_X12_runFeast_L30 B  Q n = K30 at hK30 h
    refine j_iload_n E dX12_runFeast_30 3 rfl ?_
    refine j_aload_n E dX12_runFeast_31 0 rfl ?_
    refine j_geti E 12 8 rfl rfl (by decide) (by decide) (iw iT_12) rfl rfl (tw W_698) kv0 dX12_runFeast_32 ?_
    refine j_icmp_ge E 136 dX12_runFeast_35 (by decide) (fun c91 => ?_) (fun c91 => ?_)
    · have h := h.1 c91
      refine j_iconst E (v := 0) dX12_runFeast_136 (by decide) ?_
      refine j_istore_n E 3 [(3, .int (0 : Int32)), (0, .ref v0), (1, .int v1), (2, .int v2)] dX12_runFeast_137 rfl (by decide) rfl ?_
      obtain ⟨n92, h⟩ := h
      refine j_sub [1, 2, 3, 0] rfl ?_
      exact m_X12_runFeast_L138 E EU  n92 v0 v1 v2 (0 : Int32) Z I L hZ hx hc hb kv0 h
    · have h := h.2 c91
      refine j_aload_n E dX12_runFeast_38 0 rfl ?_
      obtain ⟨b93, eb93, kb93, lb93⟩ := sh_f hZ kv0 (j := 57) (k := 14) (m := 6) rfl
      have h := h b93 eb93
      refine j_getr E 12 57 rfl rfl (by decide) (by decide) (iw iT_12) rfl rfl (tw W_916) kv0 eb93 dX12_runFeast_39 ?_
      refine j_iload_n E dX12_runFeast_42 3 rfl ?_
      refine j_iconst E (v := 0) dX12_runFeast_43 (by decide) ?_
      obtain ⟨o94, h⟩ := h
      refine j_iast E kb93 (by rw [lb93]; exact o94) dX12_runFeast_44 ?_
      refine j_nmI (fun I95 eI95 => ?_)
      have h := h I95 eI95
      refine j_aload_n E dX12_runFeast_45 0 rfl ?_
      obtain ⟨b96, eb96, kb96, lb96⟩ := sh_f hZ kv0 (j := 58) (k := 14) (m := 6) rfl
      have h := h b96 eb96
      refine j_getr E 12 58 rfl rfl (by decide) (by decide) (iw iT_12) rfl rfl (tw W_929) kv0 eb96 dX12_runFeast_46 ?_
      refine j_iload_n E dX12_runFeast_49 3 rfl ?_
      refine j_iconst E (v := 0) dX12_runFeast_50 (by decide) ?_
      obtain ⟨o97, h⟩ := h
      refine j_iast E kb96 (by rw [lb96]; exact o97) dX12_runFeast_51 ?_
      refine j_nmI (fun I98 eI98 => ?_)
      have h := h I98 eI98
      refine j_aload_n E dX12_runFeast_52 0 rfl ?_
      obtain ⟨b99, eb99, kb99, lb99⟩ := sh_f hZ kv0 (j := 56) (k := 14) (m := 6) rfl
      have h := h b99 eb99
      refine j_getr E 12 56 rfl rfl (by decide) (by decide) (iw iT_12) rfl rfl (tw W_918) kv0 eb99 dX12_runFeast_53 ?_
      refine j_iload_n E dX12_runFeast_56 3 rfl ?_
      refine j_aload_n E dX12_runFeast_57 0 rfl ?_
      refine j_iload_n E dX12_runFeast_58 3 rfl ?_
      refine ju_callV E [.int v3] [.int v3, .ref b99] (c_X12_findClimb (gL G) (gD G) (gY G) B v0 v3 Z I98 L _ hZ hb kv0 h) (gwV W_864 W_865 W_866 W_695 W_863) rfl ⟨rfl, fy_X12_findClimb⟩ ⟨Nat.le_of_ble_eq_true rfl, Nat.le_of_ble_eq_true rfl⟩ (c := 12) rfl (by decide) kv0 rfl rfl (Nat.le_of_ble_eq_true rfl) (ju_f hc hb) dX12_runFeast_59 (fun v100 Z101 I102 L103 q104 j105 => ?_)
      refine ju_next hc j105 ?_
      have hc := jle_trans hc j105
      obtain ⟨yZ101, hZ101, hbZ101, r106, rfl, zr106, h⟩ := q104
      have hZ := hZ101
      have hx : jext Z0 Z101 := jext_trans hx yZ101
      have hb := hbZ101
      have k107 := (yZ101 _ _ kv0).1
      have k108 := (yZ101 _ _ kb99).1
      have l109 := (yZ101 _ _ kb99).2.trans lb99
      show jJ G 7 62 [(0, .ref v0), (1, .int v1), (2, .int v2), (3, .int v3)] [.int r106, .int v3, .ref b99] Z101 I102 L103 (jcz Z101 - jcz Z0) (jsz Z101 - jsz Z0)
      refine j_if_eq E 72 dX12_runFeast_62 (by decide) (fun c110 => ?_) (fun c110 => ?_)
      · have h := h.1 c110
        refine j_iconst E (v := 0) dX12_runFeast_72 (by decide) ?_
        refine j_sub [0, 1, 2, 3] rfl ?_
        exact m_X12_runFeast_b73 E EU K30 hK30 v0 v1 v2 v3 b99 v3 (0 : Int32) Z101 I102 L103 hZ hx hc hb k107 k108 h
      · have h := h.2 c110
        refine j_aload_n E dX12_runFeast_65 0 rfl ?_
        refine j_geti E 12 43 rfl rfl (by decide) (by decide) (iw iT_12) rfl rfl (tw W_852) k107 dX12_runFeast_66 ?_
        refine j_goto E 73 dX12_runFeast_69 (by decide) ?_
        refine j_sub [0, 1, 2, 3] rfl ?_
        exact m_X12_runFeast_b73 E EU K30 hK30 v0 v1 v2 v3 b99 v3 (I102 v0 43) Z101 I102 L103 hZ hx hc hb k107 k108 h
set_option maxRecDepth 100000 in
def f_X12_runFeast_L2 (B : Nat × Nat)  (Q : Int32 → jZ → jI → jL → Prop) : Nat → Nat → Int32 → Int32 → jZ → jI → jL → Prop
  | 0 => fun _ _ _ _ _ _ => False
  | n + 1 => fun v0 v1 v2 Z I L => (((24 : Int32) ≤ v2 → (∀ I112 : jI, I112 = jpI I v0 60 (0 : Int32) → (∃ m30 : Nat, f_X12_runFeast_L30 B  Q m30 v0 v1 (0 : Int32) (0 : Int32) Z I112 L))) ∧ (¬ ((24 : Int32) ≤ v2) → (∀ b114 : Nat, jr Z v0 59 = some b114 → (vp_in v2 24 ∧ (∀ I116 : jI, I116 = jpI I b114 v2.toNatClampNeg (0 : Int32) → (∀ x117 : Int32, x117 = v2 + 1 → (f_X12_runFeast_L2 B Q n) v0 v1 x117 Z I116 L))))))
set_option maxHeartbeats 4000000 in
set_option maxRecDepth 100000 in
theorem m_X12_runFeast_L2 {G : jG} {Z0 : jZ} {B : Nat × Nat} {Q : Int32 → jZ → jI → jL → Prop} (E : jE G cX12_runFeast RX12 w_X12_runFeast 7 (some .int) (jrm B 107 2589 Z0) jRF) (EU : jEU G B Z0 (urtI B Z0 Q))  : ∀ (n : Nat) (v0 : Nat) (v1 : Int32) (v2 : Int32) (Z : jZ) (I : jI) (L : jL), SH Z → jext Z0 Z → jle Z0 Z → jin B Z → jk Z v0 12 → f_X12_runFeast_L2 B  Q n v0 v1 v2 Z I L → jJ G 7 2 [(0, .ref v0), (1, .int v1), (2, .int v2)] [] Z I L (jcz Z - jcz Z0) (jsz Z - jsz Z0) := by
  intro n
  induction n with
  | zero => intro v0 v1 v2 Z I L _ _ _ _ _ h; exact h.elim
  | succ n ih =>
    intro v0 v1 v2 Z I L hZ hx hc hb kv0 h
    have h : (((24 : Int32) ≤ v2 → (∀ I112 : jI, I112 = jpI I v0 60 (0 : Int32) → (∃ m30 : Nat, f_X12_runFeast_L30 B  Q m30 v0 v1 (0 : Int32) (0 : Int32) Z I112 L))) ∧ (¬ ((24 : Int32) ≤ v2) → (∀ b114 : Nat, jr Z v0 59 = some b114 → (vp_in v2 24 ∧ (∀ I116 : jI, I116 = jpI I b114 v2.toNatClampNeg (0 : Int32) → (∀ x117 : Int32, x117 = v2 + 1 → (f_X12_runFeast_L2 B Q n) v0 v1 x117 Z I116 L)))))) := h
    obtain ⟨K2, eK2⟩ : ∃ K : Nat → Int32 → Int32 → jZ → jI → jL → Prop, K = f_X12_runFeast_L2 B  Q n := ⟨_, rfl⟩
    have hK2 := ih
    clear eK2 K2
    generalize f_X12_runFeast_L2 B  Q n = K2 at hK2 h
    refine j_iload_n E dX12_runFeast_2 2 rfl ?_
    refine j_bipush E (v := 24) dX12_runFeast_3 (by decide) ?_
    refine j_icmp_ge E 21 dX12_runFeast_5 (by decide) (fun c111 => ?_) (fun c111 => ?_)
    · have h := h.1 c111
      refine j_aload_n E dX12_runFeast_21 0 rfl ?_
      refine j_iconst E (v := 0) dX12_runFeast_22 (by decide) ?_
      refine j_puti E 12 60 rfl rfl (by decide) (by decide) (iw iT_12) tyX12_ok nmX12 rfl rfl (tw W_923) rfl rfl rfl kv0 dX12_runFeast_23 ?_
      refine j_nmI (fun I112 eI112 => ?_)
      have h := h I112 eI112
      refine j_iconst E (v := 0) dX12_runFeast_26 (by decide) ?_
      refine j_istore_n E 2 [(2, .int (0 : Int32)), (0, .ref v0), (1, .int v1)] dX12_runFeast_27 rfl (by decide) rfl ?_
      refine j_iconst E (v := 0) dX12_runFeast_28 (by decide) ?_
      refine j_istore_n E 3 [(3, .int (0 : Int32)), (2, .int (0 : Int32)), (0, .ref v0), (1, .int v1)] dX12_runFeast_29 rfl (by decide) rfl ?_
      obtain ⟨n113, h⟩ := h
      refine j_sub [2, 3, 1, 0] rfl ?_
      exact m_X12_runFeast_L30 E EU  n113 v0 v1 (0 : Int32) (0 : Int32) Z I112 L hZ hx hc hb kv0 h
    · have h := h.2 c111
      refine j_aload_n E dX12_runFeast_8 0 rfl ?_
      obtain ⟨b114, eb114, kb114, lb114⟩ := sh_f hZ kv0 (j := 59) (k := 14) (m := 24) rfl
      have h := h b114 eb114
      refine j_getr E 12 59 rfl rfl (by decide) (by decide) (iw iT_12) rfl rfl (tw W_930) kv0 eb114 dX12_runFeast_9 ?_
      refine j_iload_n E dX12_runFeast_12 2 rfl ?_
      refine j_iconst E (v := 0) dX12_runFeast_13 (by decide) ?_
      obtain ⟨o115, h⟩ := h
      refine j_iast E kb114 (by rw [lb114]; exact o115) dX12_runFeast_14 ?_
      refine j_nmI (fun I116 eI116 => ?_)
      have h := h I116 eI116
      obtain ⟨x117, ex117⟩ : ∃ y : Int32, y = v2 + 1 := ⟨_, rfl⟩
      have h := h x117 ex117
      refine j_iinc E x117 [(2, .int x117), (0, .ref v0), (1, .int v1)] dX12_runFeast_15 2 rfl (by rw [ex117]; rfl) (by decide) rfl ?_
      refine j_goto E 2 dX12_runFeast_18 (by decide) ?_
      refine j_sub [1, 2, 0] rfl ?_
      exact hK2 v0 v1 x117 Z I116 L hZ hx hc hb kv0 h
set_option maxRecDepth 100000 in
def f_X12_runFeast (B : Nat × Nat) (v0 : Nat) (v1 : Int32) (Z : jZ) (I : jI) (L : jL) (Q : Int32 → jZ → jI → jL → Prop) : Prop := (∃ m2 : Nat, f_X12_runFeast_L2 B  Q m2 v0 v1 (0 : Int32) Z I L)
set_option maxHeartbeats 4000000 in
set_option maxRecDepth 100000 in
theorem c_X12_runFeast (l : Launch) (D : va_G) (cy : jC) (B : Nat × Nat) (v0 : Nat) (v1 : Int32) (Z : jZ) (I : jI) (L : jL) (Q : Int32 → jZ → jI → jL → Prop) (hZ : SH Z) (hb : jin B Z) (kv0 : jk Z v0 12) (h : f_X12_runFeast B v0 v1 Z I L Q) : jCtU l yX12_runFeast w_X12_runFeast B 107 2589 D cy [.ref v0, .int v1] Z I L (urtI B Z Q) := by
  refine jCtU_of (cc := cX12_runFeast) (maxL := 7) (ret := (some .int)) (by decide +kernel) rfl (Nat.le_of_ble_eq_true rfl) ?_
  intro G eD eY eL E EU
  subst eD; subst eY; subst eL
  have E : jE G cX12_runFeast RX12 w_X12_runFeast 7 (some .int) (jrm B 107 2589 Z) jRF := E
  have hx : jext Z Z := jext_rfl
  have hc : jle Z Z := jle_rfl
  show jJ G 7 0 [(0, .ref v0), (1, .int v1)] [] Z I L (jcz Z - jcz Z) (jsz Z - jsz Z)
  refine j_iconst E (v := 0) dX12_runFeast_0 (by decide) ?_
  refine j_istore_n E 2 [(2, .int (0 : Int32)), (0, .ref v0), (1, .int v1)] dX12_runFeast_1 rfl (by decide) rfl ?_
  obtain ⟨n118, h⟩ := h
  refine j_sub [1, 2, 0] rfl ?_
  exact m_X12_runFeast_L2 E EU  n118 v0 v1 (0 : Int32) Z I L hZ hx hc hb kv0 h
set_option maxRecDepth 100000 in
def f_X12_feast_b73 (B : Nat × Nat) (K38 : Nat → Int32 → Int32 → Int32 → Int32 → jZ → jI → jL → Prop) (Q : Int32 → jZ → jI → jL → Prop) (v0 : Nat) (v2 : Int32) (v3 : Int32) (v4 : Int32) (v5 : Int32) (Z : jZ) (I : jI) (L : jL) : Prop := (∀ x1 : Int32, x1 = v5 + 1 → K38 v0 v2 v3 v4 x1 Z I L)
set_option maxHeartbeats 4000000 in
set_option maxRecDepth 100000 in
theorem m_X12_feast_b73 {G : jG} {B : Nat × Nat} {Z0 : jZ} {Q : Int32 → jZ → jI → jL → Prop} (E : jE G cX12_feast RX12 w_X12_feast 6 (some .int) (jrm B 108 2615 Z0) jRF) (EU : jEU G B Z0 (urtI B Z0 Q)) (K38 : Nat → Int32 → Int32 → Int32 → Int32 → jZ → jI → jL → Prop) (hK38 : ∀ (v0 : Nat) (v2 : Int32) (v3 : Int32) (v4 : Int32) (v5 : Int32) (Z : jZ) (I : jI) (L : jL), SH Z → jext Z0 Z → jle Z0 Z → jin B Z → jk Z v0 12 → K38 v0 v2 v3 v4 v5 Z I L → jJ G 6 38 [(0, .ref v0), (2, .int v2), (3, .int v3), (4, .int v4), (5, .int v5)] [] Z I L (jcz Z - jcz Z0) (jsz Z - jsz Z0)) (v0 : Nat) (v2 : Int32) (v3 : Int32) (v4 : Int32) (v5 : Int32) (Z : jZ) (I : jI) (L : jL) (hZ : SH Z) (hx : jext Z0 Z) (hc : jle Z0 Z) (hb : jin B Z) (kv0 : jk Z v0 12) (h : f_X12_feast_b73 B K38 Q v0 v2 v3 v4 v5 Z I L) : jJ G 6 73 [(0, .ref v0), (2, .int v2), (3, .int v3), (4, .int v4), (5, .int v5)] [] Z I L (jcz Z - jcz Z0) (jsz Z - jsz Z0) := by
  obtain ⟨x1, ex1⟩ : ∃ y : Int32, y = v5 + 1 := ⟨_, rfl⟩
  have h := h x1 ex1
  refine j_iinc E x1 [(5, .int x1), (0, .ref v0), (2, .int v2), (3, .int v3), (4, .int v4)] dX12_feast_73 4 rfl (by rw [ex1]; rfl) (by decide) rfl ?_
  refine j_goto E 38 dX12_feast_76 (by decide) ?_
  refine j_sub [1, 2, 3, 4, 0] rfl ?_
  exact hK38 v0 v2 v3 v4 x1 Z I L hZ hx hc hb kv0 h
set_option maxRecDepth 100000 in
def f_X12_feast_L38 (B : Nat × Nat)  (Q : Int32 → jZ → jI → jL → Prop) : Nat → Nat → Int32 → Int32 → Int32 → Int32 → jZ → jI → jL → Prop
  | 0 => fun _ _ _ _ _ _ _ _ => False
  | n + 1 => fun v0 v2 v3 v4 v5 Z I L => (((I v0 8) ≤ v5 → (∀ I3 : jI, I3 = jpI I v0 21 (0 : Int32) → (f_X12_tell v0 (v3.toInt64) Z I3 L (fun I6 L7 => (f_X12_tell v0 (v4.toInt64) Z I6 L7 (fun I12 L13 => (f_X12_tell v0 ((I12 v0 60).toInt64) Z I12 L13 (fun I18 L19 => Q v2 Z I18 L19)))))))) ∧ (¬ ((I v0 8) ≤ v5) → (∀ b22 : Nat, jr Z v0 58 = some b22 → (vp_in v5 6 ∧ ((v3 < (I b22 v5.toNatClampNeg) → (∀ b25 : Nat, jr Z v0 58 = some b25 → (vp_in v5 6 ∧ (∀ x27 : Int32, x27 = (I b25 v5.toNatClampNeg) → f_X12_feast_b73 B (f_X12_feast_L38 B Q n) Q v0 v2 x27 v5 v5 Z I L)))) ∧ (¬ (v3 < (I b22 v5.toNatClampNeg)) → f_X12_feast_b73 B (f_X12_feast_L38 B Q n) Q v0 v2 v3 v4 v5 Z I L))))))
set_option maxHeartbeats 4000000 in
set_option maxRecDepth 100000 in
theorem m_X12_feast_L38 {G : jG} {Z0 : jZ} {B : Nat × Nat} {Q : Int32 → jZ → jI → jL → Prop} (E : jE G cX12_feast RX12 w_X12_feast 6 (some .int) (jrm B 108 2615 Z0) jRF) (EU : jEU G B Z0 (urtI B Z0 Q))  : ∀ (n : Nat) (v0 : Nat) (v2 : Int32) (v3 : Int32) (v4 : Int32) (v5 : Int32) (Z : jZ) (I : jI) (L : jL), SH Z → jext Z0 Z → jle Z0 Z → jin B Z → jk Z v0 12 → f_X12_feast_L38 B  Q n v0 v2 v3 v4 v5 Z I L → jJ G 6 38 [(0, .ref v0), (2, .int v2), (3, .int v3), (4, .int v4), (5, .int v5)] [] Z I L (jcz Z - jcz Z0) (jsz Z - jsz Z0) := by
  intro n
  induction n with
  | zero => intro v0 v2 v3 v4 v5 Z I L _ _ _ _ _ h; exact h.elim
  | succ n ih =>
    intro v0 v2 v3 v4 v5 Z I L hZ hx hc hb kv0 h
    have h : (((I v0 8) ≤ v5 → (∀ I3 : jI, I3 = jpI I v0 21 (0 : Int32) → (f_X12_tell v0 (v3.toInt64) Z I3 L (fun I6 L7 => (f_X12_tell v0 (v4.toInt64) Z I6 L7 (fun I12 L13 => (f_X12_tell v0 ((I12 v0 60).toInt64) Z I12 L13 (fun I18 L19 => Q v2 Z I18 L19)))))))) ∧ (¬ ((I v0 8) ≤ v5) → (∀ b22 : Nat, jr Z v0 58 = some b22 → (vp_in v5 6 ∧ ((v3 < (I b22 v5.toNatClampNeg) → (∀ b25 : Nat, jr Z v0 58 = some b25 → (vp_in v5 6 ∧ (∀ x27 : Int32, x27 = (I b25 v5.toNatClampNeg) → f_X12_feast_b73 B (f_X12_feast_L38 B Q n) Q v0 v2 x27 v5 v5 Z I L)))) ∧ (¬ (v3 < (I b22 v5.toNatClampNeg)) → f_X12_feast_b73 B (f_X12_feast_L38 B Q n) Q v0 v2 v3 v4 v5 Z I L)))))) := h
    obtain ⟨K38, eK38⟩ : ∃ K : Nat → Int32 → Int32 → Int32 → Int32 → jZ → jI → jL → Prop, K = f_X12_feast_L38 B  Q n := ⟨_, rfl⟩
    have hK38 := ih
    clear eK38 K38
    generalize f_X12_feast_L38 B  Q n = K38 at hK38 h
    refine j_iload E dX12_feast_38 4 rfl ?_
    refine j_aload_n E dX12_feast_40 0 rfl ?_
    refine j_geti E 12 8 rfl rfl (by decide) (by decide) (iw iT_12) rfl rfl (tw W_698) kv0 dX12_feast_41 ?_
    refine j_icmp_ge E 79 dX12_feast_44 (by decide) (fun c2 => ?_) (fun c2 => ?_)
    · have h := h.1 c2
      refine j_aload_n E dX12_feast_79 0 rfl ?_
      refine j_iconst E (v := 0) dX12_feast_80 (by decide) ?_
      refine j_puti E 12 21 rfl rfl (by decide) (by decide) (iw iT_12) tyX12_ok nmX12 rfl rfl (tw W_692) rfl rfl rfl kv0 dX12_feast_81 ?_
      refine j_nmI (fun I3 eI3 => ?_)
      have h := h I3 eI3
      refine j_aload_n E dX12_feast_84 0 rfl ?_
      refine j_iload_n E dX12_feast_85 2 rfl ?_
      refine j_i2l E dX12_feast_86 ?_
      refine j_callV E [.long (v3.toInt64)] [] (c_X12_tell (gL G) (gD G) (gY G) v0 (v3.toInt64) Z I3 L _ hZ kv0 h) (gwV W_820 W_821 W_822 W_695 W_819) rfl ⟨rfl, fy_X12_tell⟩ ⟨Nat.le_of_ble_eq_true rfl, Nat.le_of_ble_eq_true rfl⟩ (c := 12) rfl (by decide) kv0 rfl rfl (Nat.le_of_ble_eq_true rfl) (ju_kn hb) dX12_feast_87 (fun v4 Z5 I6 L7 q8 => ?_)
      obtain ⟨rfl, rfl, h⟩ := q8
      show jJ G 6 90 [(0, .ref v0), (2, .int v2), (3, .int v3), (4, .int v4), (5, .int v5)] [] Z I6 L7 (jcz Z - jcz Z0) (jsz Z - jsz Z0)
      refine j_aload_n E dX12_feast_90 0 rfl ?_
      refine j_iload E dX12_feast_91 3 rfl ?_
      refine j_i2l E dX12_feast_93 ?_
      refine j_callV E [.long (v4.toInt64)] [] (c_X12_tell (gL G) (gD G) (gY G) v0 (v4.toInt64) Z I6 L7 _ hZ kv0 h) (gwV W_820 W_821 W_822 W_695 W_819) rfl ⟨rfl, fy_X12_tell⟩ ⟨Nat.le_of_ble_eq_true rfl, Nat.le_of_ble_eq_true rfl⟩ (c := 12) rfl (by decide) kv0 rfl rfl (Nat.le_of_ble_eq_true rfl) (ju_kn hb) dX12_feast_94 (fun v10 Z11 I12 L13 q14 => ?_)
      obtain ⟨rfl, rfl, h⟩ := q14
      show jJ G 6 97 [(0, .ref v0), (2, .int v2), (3, .int v3), (4, .int v4), (5, .int v5)] [] Z I12 L13 (jcz Z - jcz Z0) (jsz Z - jsz Z0)
      refine j_aload_n E dX12_feast_97 0 rfl ?_
      refine j_aload_n E dX12_feast_98 0 rfl ?_
      refine j_geti E 12 60 rfl rfl (by decide) (by decide) (iw iT_12) rfl rfl (tw W_923) kv0 dX12_feast_99 ?_
      refine j_i2l E dX12_feast_102 ?_
      refine j_callV E [.long ((I12 v0 60).toInt64)] [] (c_X12_tell (gL G) (gD G) (gY G) v0 ((I12 v0 60).toInt64) Z I12 L13 _ hZ kv0 h) (gwV W_820 W_821 W_822 W_695 W_819) rfl ⟨rfl, fy_X12_tell⟩ ⟨Nat.le_of_ble_eq_true rfl, Nat.le_of_ble_eq_true rfl⟩ (c := 12) rfl (by decide) kv0 rfl rfl (Nat.le_of_ble_eq_true rfl) (ju_kn hb) dX12_feast_103 (fun v16 Z17 I18 L19 q20 => ?_)
      obtain ⟨rfl, rfl, h⟩ := q20
      show jJ G 6 106 [(0, .ref v0), (2, .int v2), (3, .int v3), (4, .int v4), (5, .int v5)] [] Z I18 L19 (jcz Z - jcz Z0) (jsz Z - jsz Z0)
      refine j_iload_n E dX12_feast_106 1 rfl ?_
      exact ju_ireturn E EU hc hb ⟨hx, hZ, hb, _, rfl, h⟩ dX12_feast_107
    · have h := h.2 c2
      refine j_aload_n E dX12_feast_47 0 rfl ?_
      obtain ⟨b22, eb22, kb22, lb22⟩ := sh_f hZ kv0 (j := 58) (k := 14) (m := 6) rfl
      have h := h b22 eb22
      refine j_getr E 12 58 rfl rfl (by decide) (by decide) (iw iT_12) rfl rfl (tw W_929) kv0 eb22 dX12_feast_48 ?_
      refine j_iload E dX12_feast_51 4 rfl ?_
      obtain ⟨o23, h⟩ := h
      refine j_iald E kb22 (by rw [lb22]; exact o23) dX12_feast_53 ?_
      refine j_iload_n E dX12_feast_54 2 rfl ?_
      refine j_icmp_gt E 61 dX12_feast_55 (by decide) (fun c24 => ?_) (fun c24 => ?_)
      · have h := h.1 c24
        refine j_aload_n E dX12_feast_61 0 rfl ?_
        obtain ⟨b25, eb25, kb25, lb25⟩ := sh_f hZ kv0 (j := 58) (k := 14) (m := 6) rfl
        have h := h b25 eb25
        refine j_getr E 12 58 rfl rfl (by decide) (by decide) (iw iT_12) rfl rfl (tw W_929) kv0 eb25 dX12_feast_62 ?_
        refine j_iload E dX12_feast_65 4 rfl ?_
        obtain ⟨o26, h⟩ := h
        refine j_iald E kb25 (by rw [lb25]; exact o26) dX12_feast_67 ?_
        refine j_topi (fun x27 ex27 => ?_)
        have h := h x27 ex27
        refine j_istore_n E 3 [(3, .int x27), (0, .ref v0), (2, .int v2), (4, .int v4), (5, .int v5)] dX12_feast_68 rfl (by decide) rfl ?_
        refine j_iload E dX12_feast_69 4 rfl ?_
        refine j_istore E 4 [(4, .int v5), (3, .int x27), (0, .ref v0), (2, .int v2), (5, .int v5)] dX12_feast_71 (by decide) rfl ?_
        refine j_sub [2, 3, 1, 0, 4] rfl ?_
        exact m_X12_feast_b73 E EU K38 hK38 v0 v2 x27 v5 v5 Z I L hZ hx hc hb kv0 h
      · have h := h.2 c24
        refine j_goto E 73 dX12_feast_58 (by decide) ?_
        refine j_sub [0, 1, 2, 3, 4] rfl ?_
        exact m_X12_feast_b73 E EU K38 hK38 v0 v2 v3 v4 v5 Z I L hZ hx hc hb kv0 h
set_option maxRecDepth 100000 in
def f_X12_feast (B : Nat × Nat) (v0 : Nat) (v1 : Int32) (Z : jZ) (I : jI) (L : jL) (Q : Int32 → jZ → jI → jL → Prop) : Prop := (∀ I28 : jI, I28 = jpI I v0 22 (0 : Int32) → (((I28 v0 0) = 0 → Q (-1 : Int32) Z I28 L) ∧ (¬ ((I28 v0 0) = 0) → (f_X12_in v1 (1 : Int32) (6 : Int32) Z I28 L (fun r36 I32 L33 => ((¬ r36 = 0 → (f_X12_runFeast B v0 v1 Z I32 L33 (fun r44 Z39 I40 L41 => (∃ m38 : Nat, f_X12_feast_L38 B  Q m38 v0 r44 (0 : Int32) (-1 : Int32) (0 : Int32) Z39 I40 L41)))) ∧ (r36 = 0 → Q (-1 : Int32) Z I32 L33)))))))
set_option maxHeartbeats 4000000 in
set_option maxRecDepth 100000 in
theorem c_X12_feast (l : Launch) (D : va_G) (cy : jC) (B : Nat × Nat) (v0 : Nat) (v1 : Int32) (Z : jZ) (I : jI) (L : jL) (Q : Int32 → jZ → jI → jL → Prop) (hZ : SH Z) (hb : jin B Z) (kv0 : jk Z v0 12) (h : f_X12_feast B v0 v1 Z I L Q) : jCtU l yX12_feast w_X12_feast B 108 2615 D cy [.ref v0, .int v1] Z I L (urtI B Z Q) := by
  refine jCtU_of (cc := cX12_feast) (maxL := 6) (ret := (some .int)) (by decide +kernel) rfl (Nat.le_of_ble_eq_true rfl) ?_
  intro G eD eY eL E EU
  subst eD; subst eY; subst eL
  have E : jE G cX12_feast RX12 w_X12_feast 6 (some .int) (jrm B 108 2615 Z) jRF := E
  have hx : jext Z Z := jext_rfl
  have hc : jle Z Z := jle_rfl
  show jJ G 6 0 [(0, .ref v0), (1, .int v1)] [] Z I L (jcz Z - jcz Z) (jsz Z - jsz Z)
  refine j_aload_n E dX12_feast_0 0 rfl ?_
  refine j_iconst E (v := 0) dX12_feast_1 (by decide) ?_
  refine j_puti E 12 22 rfl rfl (by decide) (by decide) (iw iT_12) tyX12_ok nmX12 rfl rfl (tw W_690) rfl rfl rfl kv0 dX12_feast_2 ?_
  refine j_nmI (fun I28 eI28 => ?_)
  have h := h I28 eI28
  refine j_aload_n E dX12_feast_5 0 rfl ?_
  refine j_geti E 12 0 rfl rfl (by decide) (by decide) (iw iT_12) rfl rfl (tw W_693) kv0 dX12_feast_6 ?_
  refine j_if_eq E 22 dX12_feast_9 (by decide) (fun c29 => ?_) (fun c29 => ?_)
  · have h := h.1 c29
    refine j_iconst E (v := -1) dX12_feast_22 (by decide) ?_
    exact ju_ireturn E EU hc hb ⟨hx, hZ, hb, _, rfl, h⟩ dX12_feast_23
  · have h := h.2 c29
    refine j_iload_n E dX12_feast_12 1 rfl ?_
    refine j_iconst E (v := 1) dX12_feast_13 (by decide) ?_
    refine j_bipush E (v := 6) dX12_feast_14 (by decide) ?_
    refine j_callS E [.int v1, .int (1 : Int32), .int (6 : Int32)] [] (c_X12_in (gL G) (gD G) (gY G) v1 (1 : Int32) (6 : Int32) Z I28 L _ hZ  h) (gwS W_696 W_697 W_695 W_694) rfl fy_X12_in ⟨Nat.le_of_ble_eq_true rfl, Nat.le_of_ble_eq_true rfl⟩ rfl rfl (Nat.le_of_ble_eq_true rfl) (ju_kn hb) dX12_feast_16 (fun v30 Z31 I32 L33 q34 => ?_)
    obtain ⟨rfl, r36, rfl, zr36, h⟩ := q34
    show jJ G 6 19 [(0, .ref v0), (1, .int v1)] [.int r36] Z I32 L33 (jcz Z - jcz Z) (jsz Z - jsz Z)
    refine j_if_ne E 24 dX12_feast_19 (by decide) (fun c37 => ?_) (fun c37 => ?_)
    · have h := h.1 c37
      refine j_aload_n E dX12_feast_24 0 rfl ?_
      refine j_iload_n E dX12_feast_25 1 rfl ?_
      refine ju_callV E [.int v1] [] (c_X12_runFeast (gL G) (gD G) (gY G) B v0 v1 Z I32 L33 _ hZ hb kv0 h) (gwV W_932 W_933 W_934 W_695 W_931) rfl ⟨rfl, fy_X12_runFeast⟩ ⟨Nat.le_of_ble_eq_true rfl, Nat.le_of_ble_eq_true rfl⟩ (c := 12) rfl (by decide) kv0 rfl rfl (Nat.le_of_ble_eq_true rfl) (ju_f hc hb) dX12_feast_26 (fun v38 Z39 I40 L41 q42 j43 => ?_)
      refine ju_next hc j43 ?_
      have hc := jle_trans hc j43
      obtain ⟨yZ39, hZ39, hbZ39, r44, rfl, h⟩ := q42
      have hZ := hZ39
      have hx : jext Z Z39 := jext_trans hx yZ39
      have hb := hbZ39
      have k45 := (yZ39 _ _ kv0).1
      show jJ G 6 29 [(0, .ref v0), (1, .int v1)] [.int r44] Z39 I40 L41 (jcz Z39 - jcz Z) (jsz Z39 - jsz Z)
      refine j_istore_n E 2 [(2, .int r44), (0, .ref v0), (1, .int v1)] dX12_feast_29 rfl (by decide) rfl ?_
      refine j_iconst E (v := 0) dX12_feast_30 (by decide) ?_
      refine j_istore_n E 3 [(3, .int (0 : Int32)), (2, .int r44), (0, .ref v0), (1, .int v1)] dX12_feast_31 rfl (by decide) rfl ?_
      refine j_iconst E (v := -1) dX12_feast_32 (by decide) ?_
      refine j_istore E 4 [(4, .int (-1 : Int32)), (3, .int (0 : Int32)), (2, .int r44), (0, .ref v0), (1, .int v1)] dX12_feast_33 (by decide) rfl ?_
      refine j_iconst E (v := 0) dX12_feast_35 (by decide) ?_
      refine j_istore E 5 [(5, .int (0 : Int32)), (4, .int (-1 : Int32)), (3, .int (0 : Int32)), (2, .int r44), (0, .ref v0), (1, .int v1)] dX12_feast_36 (by decide) rfl ?_
      obtain ⟨n46, h⟩ := h
      refine j_sub [4, 3, 2, 1, 0] rfl ?_
      exact m_X12_feast_L38 E EU  n46 v0 r44 (0 : Int32) (-1 : Int32) (0 : Int32) Z39 I40 L41 hZ hx hc hb k45 h
    · have h := h.2 c37
      refine j_iconst E (v := -1) dX12_feast_22 (by decide) ?_
      exact ju_ireturn E EU hc hb ⟨hx, hZ, hb, _, rfl, h⟩ dX12_feast_23
set_option maxRecDepth 100000 in
def f_X12_jam_b59 (B : Nat × Nat) (K26 : Nat → Int32 → Int32 → jZ → jI → jL → Prop) (Q : Int32 → jZ → jI → jL → Prop) (v0 : Nat) (v1 : Int32) (v2 : Int32) (Z : jZ) (I : jI) (L : jL) : Prop := (∀ x1 : Int32, x1 = v2 + 1 → K26 v0 v1 x1 Z I L)
set_option maxHeartbeats 4000000 in
set_option maxRecDepth 100000 in
theorem m_X12_jam_b59 {G : jG} {B : Nat × Nat} {Z0 : jZ} {Q : Int32 → jZ → jI → jL → Prop} (E : jE G cX12_jam RX12 w_X12_jam 3 (some .int) (jrm B 108 2615 Z0) jRF) (EU : jEU G B Z0 (urtI B Z0 Q)) (K26 : Nat → Int32 → Int32 → jZ → jI → jL → Prop) (hK26 : ∀ (v0 : Nat) (v1 : Int32) (v2 : Int32) (Z : jZ) (I : jI) (L : jL), SH Z → jext Z0 Z → jle Z0 Z → jin B Z → jk Z v0 12 → K26 v0 v1 v2 Z I L → jJ G 3 26 [(0, .ref v0), (1, .int v1), (2, .int v2)] [] Z I L (jcz Z - jcz Z0) (jsz Z - jsz Z0)) (v0 : Nat) (v1 : Int32) (v2 : Int32) (Z : jZ) (I : jI) (L : jL) (hZ : SH Z) (hx : jext Z0 Z) (hc : jle Z0 Z) (hb : jin B Z) (kv0 : jk Z v0 12) (h : f_X12_jam_b59 B K26 Q v0 v1 v2 Z I L) : jJ G 3 59 [(0, .ref v0), (1, .int v1), (2, .int v2)] [] Z I L (jcz Z - jcz Z0) (jsz Z - jsz Z0) := by
  obtain ⟨x1, ex1⟩ : ∃ y : Int32, y = v2 + 1 := ⟨_, rfl⟩
  have h := h x1 ex1
  refine j_iinc E x1 [(2, .int x1), (0, .ref v0), (1, .int v1)] dX12_jam_59 2 rfl (by rw [ex1]; rfl) (by decide) rfl ?_
  refine j_goto E 26 dX12_jam_62 (by decide) ?_
  refine j_sub [1, 2, 0] rfl ?_
  exact hK26 v0 v1 x1 Z I L hZ hx hc hb kv0 h
set_option maxRecDepth 100000 in
def f_X12_jam_b54 (B : Nat × Nat) (K26 : Nat → Int32 → Int32 → jZ → jI → jL → Prop) (Q : Int32 → jZ → jI → jL → Prop) (v0 : Nat) (v1 : Int32) (v2 : Int32) (s0 : Int32) (s1 : Int32) (Z : jZ) (I : jI) (L : jL) : Prop := ((s0 ≤ s1 → f_X12_jam_b59 B K26 Q v0 v1 v2 Z I L) ∧ (¬ (s0 ≤ s1) → f_X12_jam_b59 B K26 Q v0 v2 v2 Z I L))
set_option maxHeartbeats 4000000 in
set_option maxRecDepth 100000 in
theorem m_X12_jam_b54 {G : jG} {B : Nat × Nat} {Z0 : jZ} {Q : Int32 → jZ → jI → jL → Prop} (E : jE G cX12_jam RX12 w_X12_jam 3 (some .int) (jrm B 108 2615 Z0) jRF) (EU : jEU G B Z0 (urtI B Z0 Q)) (K26 : Nat → Int32 → Int32 → jZ → jI → jL → Prop) (hK26 : ∀ (v0 : Nat) (v1 : Int32) (v2 : Int32) (Z : jZ) (I : jI) (L : jL), SH Z → jext Z0 Z → jle Z0 Z → jin B Z → jk Z v0 12 → K26 v0 v1 v2 Z I L → jJ G 3 26 [(0, .ref v0), (1, .int v1), (2, .int v2)] [] Z I L (jcz Z - jcz Z0) (jsz Z - jsz Z0)) (v0 : Nat) (v1 : Int32) (v2 : Int32) (s0 : Int32) (s1 : Int32) (Z : jZ) (I : jI) (L : jL) (hZ : SH Z) (hx : jext Z0 Z) (hc : jle Z0 Z) (hb : jin B Z) (kv0 : jk Z v0 12) (h : f_X12_jam_b54 B K26 Q v0 v1 v2 s0 s1 Z I L) : jJ G 3 54 [(0, .ref v0), (1, .int v1), (2, .int v2)] [.int s1, .int s0] Z I L (jcz Z - jcz Z0) (jsz Z - jsz Z0) := by
  refine j_icmp_le E 59 dX12_jam_54 (by decide) (fun c2 => ?_) (fun c2 => ?_)
  · have h := h.1 c2
    refine j_sub [0, 1, 2] rfl ?_
    exact m_X12_jam_b59 E EU K26 hK26 v0 v1 v2 Z I L hZ hx hc hb kv0 h
  · have h := h.2 c2
    refine j_iload_n E dX12_jam_57 2 rfl ?_
    refine j_istore_n E 1 [(1, .int v2), (0, .ref v0), (2, .int v2)] dX12_jam_58 rfl (by decide) rfl ?_
    refine j_sub [1, 0, 2] rfl ?_
    exact m_X12_jam_b59 E EU K26 hK26 v0 v2 v2 Z I L hZ hx hc hb kv0 h
set_option maxRecDepth 100000 in
def f_X12_jam_L26 (B : Nat × Nat)  (Q : Int32 → jZ → jI → jL → Prop) : Nat → Nat → Int32 → Int32 → jZ → jI → jL → Prop
  | 0 => fun _ _ _ _ _ _ => False
  | n + 1 => fun v0 v1 v2 Z I L => (((I v0 0) ≤ v2 → ((0 ≤ v1 → (∀ I5 : jI, I5 = jpI I v0 21 (0 : Int32) → (∀ b6 : Nat, jr Z v0 59 = some b6 → (vp_in v1 24 ∧ (f_X12_tell v0 ((I5 b6 v1.toNatClampNeg).toInt64) Z I5 L (fun I10 L11 => Q v1 Z I10 L11)))))) ∧ (¬ (0 ≤ v1) → Q (-2 : Int32) Z I L))) ∧ (¬ ((I v0 0) ≤ v2) → (∀ b14 : Nat, jr Z v0 59 = some b14 → (vp_in v2 24 ∧ ((0 ≤ v1 → (∀ b17 : Nat, jr Z v0 59 = some b17 → (vp_in v1 24 ∧ f_X12_jam_b54 B (f_X12_jam_L26 B Q n) Q v0 v1 v2 (I b14 v2.toNatClampNeg) (I b17 v1.toNatClampNeg) Z I L))) ∧ (¬ (0 ≤ v1) → f_X12_jam_b54 B (f_X12_jam_L26 B Q n) Q v0 v1 v2 (I b14 v2.toNatClampNeg) (0 : Int32) Z I L))))))
set_option maxHeartbeats 4000000 in
set_option maxRecDepth 100000 in
theorem m_X12_jam_L26 {G : jG} {Z0 : jZ} {B : Nat × Nat} {Q : Int32 → jZ → jI → jL → Prop} (E : jE G cX12_jam RX12 w_X12_jam 3 (some .int) (jrm B 108 2615 Z0) jRF) (EU : jEU G B Z0 (urtI B Z0 Q))  : ∀ (n : Nat) (v0 : Nat) (v1 : Int32) (v2 : Int32) (Z : jZ) (I : jI) (L : jL), SH Z → jext Z0 Z → jle Z0 Z → jin B Z → jk Z v0 12 → f_X12_jam_L26 B  Q n v0 v1 v2 Z I L → jJ G 3 26 [(0, .ref v0), (1, .int v1), (2, .int v2)] [] Z I L (jcz Z - jcz Z0) (jsz Z - jsz Z0) := by
  intro n
  induction n with
  | zero => intro v0 v1 v2 Z I L _ _ _ _ _ h; exact h.elim
  | succ n ih =>
    intro v0 v1 v2 Z I L hZ hx hc hb kv0 h
    have h : (((I v0 0) ≤ v2 → ((0 ≤ v1 → (∀ I5 : jI, I5 = jpI I v0 21 (0 : Int32) → (∀ b6 : Nat, jr Z v0 59 = some b6 → (vp_in v1 24 ∧ (f_X12_tell v0 ((I5 b6 v1.toNatClampNeg).toInt64) Z I5 L (fun I10 L11 => Q v1 Z I10 L11)))))) ∧ (¬ (0 ≤ v1) → Q (-2 : Int32) Z I L))) ∧ (¬ ((I v0 0) ≤ v2) → (∀ b14 : Nat, jr Z v0 59 = some b14 → (vp_in v2 24 ∧ ((0 ≤ v1 → (∀ b17 : Nat, jr Z v0 59 = some b17 → (vp_in v1 24 ∧ f_X12_jam_b54 B (f_X12_jam_L26 B Q n) Q v0 v1 v2 (I b14 v2.toNatClampNeg) (I b17 v1.toNatClampNeg) Z I L))) ∧ (¬ (0 ≤ v1) → f_X12_jam_b54 B (f_X12_jam_L26 B Q n) Q v0 v1 v2 (I b14 v2.toNatClampNeg) (0 : Int32) Z I L)))))) := h
    obtain ⟨K26, eK26⟩ : ∃ K : Nat → Int32 → Int32 → jZ → jI → jL → Prop, K = f_X12_jam_L26 B  Q n := ⟨_, rfl⟩
    have hK26 := ih
    clear eK26 K26
    generalize f_X12_jam_L26 B  Q n = K26 at hK26 h
    refine j_iload_n E dX12_jam_26 2 rfl ?_
    refine j_aload_n E dX12_jam_27 0 rfl ?_
    refine j_geti E 12 0 rfl rfl (by decide) (by decide) (iw iT_12) rfl rfl (tw W_693) kv0 dX12_jam_28 ?_
    refine j_icmp_ge E 65 dX12_jam_31 (by decide) (fun c3 => ?_) (fun c3 => ?_)
    · have h := h.1 c3
      refine j_iload_n E dX12_jam_65 1 rfl ?_
      refine j_if_ge E 72 dX12_jam_66 (by decide) (fun c4 => ?_) (fun c4 => ?_)
      · have h := h.1 c4
        refine j_aload_n E dX12_jam_72 0 rfl ?_
        refine j_iconst E (v := 0) dX12_jam_73 (by decide) ?_
        refine j_puti E 12 21 rfl rfl (by decide) (by decide) (iw iT_12) tyX12_ok nmX12 rfl rfl (tw W_692) rfl rfl rfl kv0 dX12_jam_74 ?_
        refine j_nmI (fun I5 eI5 => ?_)
        have h := h I5 eI5
        refine j_aload_n E dX12_jam_77 0 rfl ?_
        refine j_aload_n E dX12_jam_78 0 rfl ?_
        obtain ⟨b6, eb6, kb6, lb6⟩ := sh_f hZ kv0 (j := 59) (k := 14) (m := 24) rfl
        have h := h b6 eb6
        refine j_getr E 12 59 rfl rfl (by decide) (by decide) (iw iT_12) rfl rfl (tw W_930) kv0 eb6 dX12_jam_79 ?_
        refine j_iload_n E dX12_jam_82 1 rfl ?_
        obtain ⟨o7, h⟩ := h
        refine j_iald E kb6 (by rw [lb6]; exact o7) dX12_jam_83 ?_
        refine j_i2l E dX12_jam_84 ?_
        refine j_callV E [.long ((I5 b6 v1.toNatClampNeg).toInt64)] [] (c_X12_tell (gL G) (gD G) (gY G) v0 ((I5 b6 v1.toNatClampNeg).toInt64) Z I5 L _ hZ kv0 h) (gwV W_820 W_821 W_822 W_695 W_819) rfl ⟨rfl, fy_X12_tell⟩ ⟨Nat.le_of_ble_eq_true rfl, Nat.le_of_ble_eq_true rfl⟩ (c := 12) rfl (by decide) kv0 rfl rfl (Nat.le_of_ble_eq_true rfl) (ju_kn hb) dX12_jam_85 (fun v8 Z9 I10 L11 q12 => ?_)
        obtain ⟨rfl, rfl, h⟩ := q12
        show jJ G 3 88 [(0, .ref v0), (1, .int v1), (2, .int v2)] [] Z I10 L11 (jcz Z - jcz Z0) (jsz Z - jsz Z0)
        refine j_iload_n E dX12_jam_88 1 rfl ?_
        exact ju_ireturn E EU hc hb ⟨hx, hZ, hb, _, rfl, h⟩ dX12_jam_89
      · have h := h.2 c4
        refine j_bipush E (v := -2) dX12_jam_69 (by decide) ?_
        exact ju_ireturn E EU hc hb ⟨hx, hZ, hb, _, rfl, h⟩ dX12_jam_71
    · have h := h.2 c3
      refine j_aload_n E dX12_jam_34 0 rfl ?_
      obtain ⟨b14, eb14, kb14, lb14⟩ := sh_f hZ kv0 (j := 59) (k := 14) (m := 24) rfl
      have h := h b14 eb14
      refine j_getr E 12 59 rfl rfl (by decide) (by decide) (iw iT_12) rfl rfl (tw W_930) kv0 eb14 dX12_jam_35 ?_
      refine j_iload_n E dX12_jam_38 2 rfl ?_
      obtain ⟨o15, h⟩ := h
      refine j_iald E kb14 (by rw [lb14]; exact o15) dX12_jam_39 ?_
      refine j_iload_n E dX12_jam_40 1 rfl ?_
      refine j_if_ge E 48 dX12_jam_41 (by decide) (fun c16 => ?_) (fun c16 => ?_)
      · have h := h.1 c16
        refine j_aload_n E dX12_jam_48 0 rfl ?_
        obtain ⟨b17, eb17, kb17, lb17⟩ := sh_f hZ kv0 (j := 59) (k := 14) (m := 24) rfl
        have h := h b17 eb17
        refine j_getr E 12 59 rfl rfl (by decide) (by decide) (iw iT_12) rfl rfl (tw W_930) kv0 eb17 dX12_jam_49 ?_
        refine j_iload_n E dX12_jam_52 1 rfl ?_
        obtain ⟨o18, h⟩ := h
        refine j_iald E kb17 (by rw [lb17]; exact o18) dX12_jam_53 ?_
        refine j_sub [0, 1, 2] rfl ?_
        exact m_X12_jam_b54 E EU K26 hK26 v0 v1 v2 (I b14 v2.toNatClampNeg) (I b17 v1.toNatClampNeg) Z I L hZ hx hc hb kv0 h
      · have h := h.2 c16
        refine j_iconst E (v := 0) dX12_jam_44 (by decide) ?_
        refine j_goto E 54 dX12_jam_45 (by decide) ?_
        refine j_sub [0, 1, 2] rfl ?_
        exact m_X12_jam_b54 E EU K26 hK26 v0 v1 v2 (I b14 v2.toNatClampNeg) (0 : Int32) Z I L hZ hx hc hb kv0 h
set_option maxRecDepth 100000 in
def f_X12_jam (B : Nat × Nat) (v0 : Nat) (Z : jZ) (I : jI) (L : jL) (Q : Int32 → jZ → jI → jL → Prop) : Prop := (∀ I19 : jI, I19 = jpI I v0 22 (0 : Int32) → ((¬ (I19 v0 0) = 0 → (f_X12_runFeast B v0 (1 : Int32) Z I19 L (fun r27 Z22 I23 L24 => (∃ m26 : Nat, f_X12_jam_L26 B  Q m26 v0 (-2 : Int32) (0 : Int32) Z22 I23 L24)))) ∧ ((I19 v0 0) = 0 → Q (-2 : Int32) Z I19 L)))
set_option maxHeartbeats 4000000 in
set_option maxRecDepth 100000 in
theorem c_X12_jam (l : Launch) (D : va_G) (cy : jC) (B : Nat × Nat) (v0 : Nat) (Z : jZ) (I : jI) (L : jL) (Q : Int32 → jZ → jI → jL → Prop) (hZ : SH Z) (hb : jin B Z) (kv0 : jk Z v0 12) (h : f_X12_jam B v0 Z I L Q) : jCtU l yX12_jam w_X12_jam B 108 2615 D cy [.ref v0] Z I L (urtI B Z Q) := by
  refine jCtU_of (cc := cX12_jam) (maxL := 3) (ret := (some .int)) (by decide +kernel) rfl (Nat.le_of_ble_eq_true rfl) ?_
  intro G eD eY eL E EU
  subst eD; subst eY; subst eL
  have E : jE G cX12_jam RX12 w_X12_jam 3 (some .int) (jrm B 108 2615 Z) jRF := E
  have hx : jext Z Z := jext_rfl
  have hc : jle Z Z := jle_rfl
  show jJ G 3 0 [(0, .ref v0)] [] Z I L (jcz Z - jcz Z) (jsz Z - jsz Z)
  refine j_aload_n E dX12_jam_0 0 rfl ?_
  refine j_iconst E (v := 0) dX12_jam_1 (by decide) ?_
  refine j_puti E 12 22 rfl rfl (by decide) (by decide) (iw iT_12) tyX12_ok nmX12 rfl rfl (tw W_690) rfl rfl rfl kv0 dX12_jam_2 ?_
  refine j_nmI (fun I19 eI19 => ?_)
  have h := h I19 eI19
  refine j_aload_n E dX12_jam_5 0 rfl ?_
  refine j_geti E 12 0 rfl rfl (by decide) (by decide) (iw iT_12) rfl rfl (tw W_693) kv0 dX12_jam_6 ?_
  refine j_if_ne E 15 dX12_jam_9 (by decide) (fun c20 => ?_) (fun c20 => ?_)
  · have h := h.1 c20
    refine j_aload_n E dX12_jam_15 0 rfl ?_
    refine j_iconst E (v := 1) dX12_jam_16 (by decide) ?_
    refine ju_callV E [.int (1 : Int32)] [] (c_X12_runFeast (gL G) (gD G) (gY G) B v0 (1 : Int32) Z I19 L _ hZ hb kv0 h) (gwV W_932 W_933 W_934 W_695 W_931) rfl ⟨rfl, fy_X12_runFeast⟩ ⟨Nat.le_of_ble_eq_true rfl, Nat.le_of_ble_eq_true rfl⟩ (c := 12) rfl (by decide) kv0 rfl rfl (Nat.le_of_ble_eq_true rfl) (ju_f hc hb) dX12_jam_17 (fun v21 Z22 I23 L24 q25 j26 => ?_)
    refine ju_next hc j26 ?_
    have hc := jle_trans hc j26
    obtain ⟨yZ22, hZ22, hbZ22, r27, rfl, h⟩ := q25
    have hZ := hZ22
    have hx : jext Z Z22 := jext_trans hx yZ22
    have hb := hbZ22
    have k28 := (yZ22 _ _ kv0).1
    show jJ G 3 20 [(0, .ref v0)] [.int r27] Z22 I23 L24 (jcz Z22 - jcz Z) (jsz Z22 - jsz Z)
    refine j_pop E dX12_jam_20 rfl ?_
    refine j_bipush E (v := -2) dX12_jam_21 (by decide) ?_
    refine j_istore_n E 1 [(1, .int (-2 : Int32)), (0, .ref v0)] dX12_jam_23 rfl (by decide) rfl ?_
    refine j_iconst E (v := 0) dX12_jam_24 (by decide) ?_
    refine j_istore_n E 2 [(2, .int (0 : Int32)), (1, .int (-2 : Int32)), (0, .ref v0)] dX12_jam_25 rfl (by decide) rfl ?_
    obtain ⟨n29, h⟩ := h
    refine j_sub [2, 1, 0] rfl ?_
    exact m_X12_jam_L26 E EU  n29 v0 (-2 : Int32) (0 : Int32) Z22 I23 L24 hZ hx hc hb k28 h
  · have h := h.2 c20
    refine j_bipush E (v := -2) dX12_jam_12 (by decide) ?_
    exact ju_ireturn E EU hc hb ⟨hx, hZ, hb, _, rfl, h⟩ dX12_jam_14
set_option maxRecDepth 100000 in
def f_X12_put (v0 : Nat) (v1 : Int32) (Z : jZ) (I : jI) (L : jL) (Q : jI → jL → Prop) : Prop := (∀ b1 : Nat, jr Z v0 62 = some b1 → (vp_in (I v0 66) 532 ∧ (∀ I3 : jI, I3 = jpI I b1 (I v0 66).toNatClampNeg v1 → (∀ I4 : jI, I4 = jpI I3 v0 66 ((I3 v0 66) + (1 : Int32)) → Q I4 L))))
set_option maxHeartbeats 4000000 in
set_option maxRecDepth 100000 in
theorem c_X12_put (l : Launch) (D : va_G) (cy : jC) (v0 : Nat) (v1 : Int32) (Z : jZ) (I : jI) (L : jL) (Q : jI → jL → Prop) (hZ : SH Z) (kv0 : jk Z v0 12) (h : f_X12_put v0 v1 Z I L Q) : jCt l yX12_put w_X12_put { frames := 0, cells := 0, slots := 0, locals := 0 } D cy [.ref v0, .int v1] Z I L (rtV Z Q) := by
  refine jCt_of (cc := cX12_put) (maxL := 2) (ret := none) (by decide +kernel) rfl (Nat.le_of_ble_eq_true rfl) ?_
  intro G eD eY eL E
  subst eD; subst eY; subst eL
  have E : jE G cX12_put RX12 w_X12_put 2 none { frames := 0, cells := 0, slots := 0, locals := 0 } (rtV Z Q) := E
  show jJ G 2 0 [(0, .ref v0), (1, .int v1)] [] Z I L 0 0
  refine j_aload_n E dX12_put_0 0 rfl ?_
  obtain ⟨b1, eb1, kb1, lb1⟩ := sh_f hZ kv0 (j := 62) (k := 14) (m := 532) rfl
  have h := h b1 eb1
  refine j_getr E 12 62 rfl rfl (by decide) (by decide) (iw iT_12) rfl rfl (tw W_935) kv0 eb1 dX12_put_1 ?_
  refine j_aload_n E dX12_put_4 0 rfl ?_
  refine j_geti E 12 66 rfl rfl (by decide) (by decide) (iw iT_12) rfl rfl (tw W_936) kv0 dX12_put_5 ?_
  refine j_iload_n E dX12_put_8 1 rfl ?_
  obtain ⟨o2, h⟩ := h
  refine j_iast E kb1 (by rw [lb1]; exact o2) dX12_put_9 ?_
  refine j_nmI (fun I3 eI3 => ?_)
  have h := h I3 eI3
  refine j_aload_n E dX12_put_10 0 rfl ?_
  refine j_dup E dX12_put_11 rfl ?_
  refine j_geti E 12 66 rfl rfl (by decide) (by decide) (iw iT_12) rfl rfl (tw W_936) kv0 dX12_put_12 ?_
  refine j_iconst E (v := 1) dX12_put_15 (by decide) ?_
  refine j_iadd E dX12_put_16 ?_
  refine j_puti E 12 66 rfl rfl (by decide) (by decide) (iw iT_12) tyX12_ok nmX12 rfl rfl (tw W_936) rfl rfl rfl kv0 dX12_put_17 ?_
  refine j_nmI (fun I4 eI4 => ?_)
  have h := h I4 eI4
  exact j_return E ⟨rfl, rfl, h⟩ (Nat.zero_le _) (Nat.zero_le _) dX12_put_20
set_option maxRecDepth 100000 in
def f_X12_take (v0 : Nat) (Z : jZ) (I : jI) (L : jL) (Q : Int32 → jI → jL → Prop) : Prop := (∀ I1 : jI, I1 = jpI I v0 66 ((I v0 66) + (1 : Int32)) → (∀ b2 : Nat, jr Z v0 62 = some b2 → (vp_in ((I1 v0 66) - (1 : Int32)) 532 ∧ Q (I1 b2 ((I1 v0 66) - (1 : Int32)).toNatClampNeg) I1 L)))
set_option maxHeartbeats 4000000 in
set_option maxRecDepth 100000 in
theorem c_X12_take (l : Launch) (D : va_G) (cy : jC) (v0 : Nat) (Z : jZ) (I : jI) (L : jL) (Q : Int32 → jI → jL → Prop) (hZ : SH Z) (kv0 : jk Z v0 12) (h : f_X12_take v0 Z I L Q) : jCt l yX12_take w_X12_take { frames := 0, cells := 0, slots := 0, locals := 0 } D cy [.ref v0] Z I L (rtI Z Q) := by
  refine jCt_of (cc := cX12_take) (maxL := 1) (ret := (some .int)) (by decide +kernel) rfl (Nat.le_of_ble_eq_true rfl) ?_
  intro G eD eY eL E
  subst eD; subst eY; subst eL
  have E : jE G cX12_take RX12 w_X12_take 1 (some .int) { frames := 0, cells := 0, slots := 0, locals := 0 } (rtI Z Q) := E
  show jJ G 1 0 [(0, .ref v0)] [] Z I L 0 0
  refine j_aload_n E dX12_take_0 0 rfl ?_
  refine j_dup E dX12_take_1 rfl ?_
  refine j_geti E 12 66 rfl rfl (by decide) (by decide) (iw iT_12) rfl rfl (tw W_936) kv0 dX12_take_2 ?_
  refine j_iconst E (v := 1) dX12_take_5 (by decide) ?_
  refine j_iadd E dX12_take_6 ?_
  refine j_puti E 12 66 rfl rfl (by decide) (by decide) (iw iT_12) tyX12_ok nmX12 rfl rfl (tw W_936) rfl rfl rfl kv0 dX12_take_7 ?_
  refine j_nmI (fun I1 eI1 => ?_)
  have h := h I1 eI1
  refine j_aload_n E dX12_take_10 0 rfl ?_
  obtain ⟨b2, eb2, kb2, lb2⟩ := sh_f hZ kv0 (j := 62) (k := 14) (m := 532) rfl
  have h := h b2 eb2
  refine j_getr E 12 62 rfl rfl (by decide) (by decide) (iw iT_12) rfl rfl (tw W_935) kv0 eb2 dX12_take_11 ?_
  refine j_aload_n E dX12_take_14 0 rfl ?_
  refine j_geti E 12 66 rfl rfl (by decide) (by decide) (iw iT_12) rfl rfl (tw W_936) kv0 dX12_take_15 ?_
  refine j_iconst E (v := 1) dX12_take_18 (by decide) ?_
  refine j_isub E dX12_take_19 ?_
  obtain ⟨o3, h⟩ := h
  refine j_iald E kb2 (by rw [lb2]; exact o3) dX12_take_20 ?_
  exact j_ireturn E ⟨rfl, _, rfl, h⟩ (Nat.zero_le _) (Nat.zero_le _) dX12_take_21
set_option maxRecDepth 100000 in
def f_X12_keep_L157  (Z : jZ) (Q : Int32 → jI → jL → Prop) : Nat → Nat → Int32 → jI → jL → Prop
  | 0 => fun _ _ _ _ => False
  | n + 1 => fun v0 v2 I L => (((8 : Int32) ≤ v2 → Q (1 : Int32) I L) ∧ (¬ ((8 : Int32) ≤ v2) → (∀ b2 : Nat, jr Z v0 17 = some b2 → (vp_in v2 8 ∧ (f_X12_put v0 (I b2 v2.toNatClampNeg) Z I L (fun I6 L7 => (∀ x10 : Int32, x10 = v2 + 1 → (f_X12_keep_L157 Z Q n) v0 x10 I6 L7)))))))
set_option maxHeartbeats 4000000 in
set_option maxRecDepth 100000 in
theorem m_X12_keep_L157 {G : jG} {Z : jZ} {Q : Int32 → jI → jL → Prop} (E : jE G cX12_keep RX12 w_X12_keep 3 (some .boolean) { frames := 1, cells := 0, slots := 0, locals := 22 } (rtZ Z Q)) (hZ : SH Z)  : ∀ (n : Nat) (v0 : Nat) (v2 : Int32) (I : jI) (L : jL), jk Z v0 12 → f_X12_keep_L157  Z Q n v0 v2 I L → jJ G 3 157 [(0, .ref v0), (2, .int v2)] [] Z I L 0 0 := by
  intro n
  induction n with
  | zero => intro v0 v2 I L _ h; exact h.elim
  | succ n ih =>
    intro v0 v2 I L kv0 h
    have h : (((8 : Int32) ≤ v2 → Q (1 : Int32) I L) ∧ (¬ ((8 : Int32) ≤ v2) → (∀ b2 : Nat, jr Z v0 17 = some b2 → (vp_in v2 8 ∧ (f_X12_put v0 (I b2 v2.toNatClampNeg) Z I L (fun I6 L7 => (∀ x10 : Int32, x10 = v2 + 1 → (f_X12_keep_L157 Z Q n) v0 x10 I6 L7))))))) := h
    obtain ⟨K157, eK157⟩ : ∃ K : Nat → Int32 → jI → jL → Prop, K = f_X12_keep_L157  Z Q n := ⟨_, rfl⟩
    have hK157 := ih
    clear eK157 K157
    generalize f_X12_keep_L157  Z Q n = K157 at hK157 h
    refine j_iload_n E dX12_keep_157 1 rfl ?_
    refine j_bipush E (v := 8) dX12_keep_158 (by decide) ?_
    refine j_icmp_ge E 179 dX12_keep_160 (by decide) (fun c1 => ?_) (fun c1 => ?_)
    · have h := h.1 c1
      refine j_iconst E (v := 1) dX12_keep_179 (by decide) ?_
      exact j_zreturn E (Or.inr rfl) ⟨rfl, _, rfl, (Or.inr rfl), h⟩ (Nat.zero_le _) (Nat.zero_le _) dX12_keep_180
    · have h := h.2 c1
      refine j_aload_n E dX12_keep_163 0 rfl ?_
      refine j_aload_n E dX12_keep_164 0 rfl ?_
      obtain ⟨b2, eb2, kb2, lb2⟩ := sh_f hZ kv0 (j := 17) (k := 14) (m := 8) rfl
      have h := h b2 eb2
      refine j_getr E 12 17 rfl rfl (by decide) (by decide) (iw iT_12) rfl rfl (tw W_737) kv0 eb2 dX12_keep_165 ?_
      refine j_iload_n E dX12_keep_168 1 rfl ?_
      obtain ⟨o3, h⟩ := h
      refine j_iald E kb2 (by rw [lb2]; exact o3) dX12_keep_169 ?_
      refine j_callV E [.int (I b2 v2.toNatClampNeg)] [] (c_X12_put (gL G) (gD G) (gY G) v0 (I b2 v2.toNatClampNeg) Z I L _ hZ kv0 h) (gwV W_938 W_939 W_940 W_695 W_937) rfl ⟨rfl, fy_X12_put⟩ ⟨by decide, by decide⟩ (c := 12) rfl (by decide) kv0 rfl rfl (Nat.le_of_ble_eq_true rfl) ⟨Nat.zero_le _, Nat.zero_le _⟩ dX12_keep_170 (fun v4 Z5 I6 L7 q8 => ?_)
      obtain ⟨rfl, rfl, h⟩ := q8
      show jJ G 3 173 [(0, .ref v0), (2, .int v2)] [] Z I6 L7 0 0
      obtain ⟨x10, ex10⟩ : ∃ y : Int32, y = v2 + 1 := ⟨_, rfl⟩
      have h := h x10 ex10
      refine j_iinc E x10 [(2, .int x10), (0, .ref v0)] dX12_keep_173 1 rfl (by rw [ex10]; rfl) (by decide) rfl ?_
      refine j_goto E 157 dX12_keep_176 (by decide) ?_
      refine j_sub [1, 0] rfl ?_
      exact hK157 v0 x10 I6 L7 kv0 h
set_option maxRecDepth 100000 in
def f_X12_keep_L113  (Z : jZ) (Q : Int32 → jI → jL → Prop) : Nat → Nat → Int32 → jI → jL → Prop
  | 0 => fun _ _ _ _ => False
  | n + 1 => fun v0 v2 I L => (((6 : Int32) ≤ v2 → (∃ m157 : Nat, f_X12_keep_L157  Z Q m157 v0 (0 : Int32) I L)) ∧ (¬ ((6 : Int32) ≤ v2) → (∀ b13 : Nat, jr Z v0 14 = some b13 → (vp_in v2 6 ∧ (f_X12_put v0 (I b13 v2.toNatClampNeg) Z I L (fun I17 L18 => (∀ b21 : Nat, jr Z v0 15 = some b21 → (vp_in v2 6 ∧ (f_X12_put v0 (I17 b21 v2.toNatClampNeg) Z I17 L18 (fun I25 L26 => (∀ b29 : Nat, jr Z v0 16 = some b29 → (vp_in v2 6 ∧ (f_X12_put v0 (I25 b29 v2.toNatClampNeg) Z I25 L26 (fun I33 L34 => (∀ x37 : Int32, x37 = v2 + 1 → (f_X12_keep_L113 Z Q n) v0 x37 I33 L34)))))))))))))))
set_option maxHeartbeats 4000000 in
set_option maxRecDepth 100000 in
theorem m_X12_keep_L113 {G : jG} {Z : jZ} {Q : Int32 → jI → jL → Prop} (E : jE G cX12_keep RX12 w_X12_keep 3 (some .boolean) { frames := 1, cells := 0, slots := 0, locals := 22 } (rtZ Z Q)) (hZ : SH Z)  : ∀ (n : Nat) (v0 : Nat) (v2 : Int32) (I : jI) (L : jL), jk Z v0 12 → f_X12_keep_L113  Z Q n v0 v2 I L → jJ G 3 113 [(0, .ref v0), (2, .int v2)] [] Z I L 0 0 := by
  intro n
  induction n with
  | zero => intro v0 v2 I L _ h; exact h.elim
  | succ n ih =>
    intro v0 v2 I L kv0 h
    have h : (((6 : Int32) ≤ v2 → (∃ m157 : Nat, f_X12_keep_L157  Z Q m157 v0 (0 : Int32) I L)) ∧ (¬ ((6 : Int32) ≤ v2) → (∀ b13 : Nat, jr Z v0 14 = some b13 → (vp_in v2 6 ∧ (f_X12_put v0 (I b13 v2.toNatClampNeg) Z I L (fun I17 L18 => (∀ b21 : Nat, jr Z v0 15 = some b21 → (vp_in v2 6 ∧ (f_X12_put v0 (I17 b21 v2.toNatClampNeg) Z I17 L18 (fun I25 L26 => (∀ b29 : Nat, jr Z v0 16 = some b29 → (vp_in v2 6 ∧ (f_X12_put v0 (I25 b29 v2.toNatClampNeg) Z I25 L26 (fun I33 L34 => (∀ x37 : Int32, x37 = v2 + 1 → (f_X12_keep_L113 Z Q n) v0 x37 I33 L34))))))))))))))) := h
    obtain ⟨K113, eK113⟩ : ∃ K : Nat → Int32 → jI → jL → Prop, K = f_X12_keep_L113  Z Q n := ⟨_, rfl⟩
    have hK113 := ih
    clear eK113 K113
    generalize f_X12_keep_L113  Z Q n = K113 at hK113 h
    refine j_iload_n E dX12_keep_113 1 rfl ?_
    refine j_bipush E (v := 6) dX12_keep_114 (by decide) ?_
    refine j_icmp_ge E 155 dX12_keep_116 (by decide) (fun c11 => ?_) (fun c11 => ?_)
    · have h := h.1 c11
      refine j_iconst E (v := 0) dX12_keep_155 (by decide) ?_
      refine j_istore_n E 2 [(2, .int (0 : Int32)), (0, .ref v0)] dX12_keep_156 rfl (by decide) rfl ?_
      obtain ⟨n12, h⟩ := h
      refine j_sub [1, 0] rfl ?_
      exact m_X12_keep_L157 E hZ  n12 v0 (0 : Int32) I L kv0 h
    · have h := h.2 c11
      refine j_aload_n E dX12_keep_119 0 rfl ?_
      refine j_aload_n E dX12_keep_120 0 rfl ?_
      obtain ⟨b13, eb13, kb13, lb13⟩ := sh_f hZ kv0 (j := 14) (k := 14) (m := 6) rfl
      have h := h b13 eb13
      refine j_getr E 12 14 rfl rfl (by decide) (by decide) (iw iT_12) rfl rfl (tw W_732) kv0 eb13 dX12_keep_121 ?_
      refine j_iload_n E dX12_keep_124 1 rfl ?_
      obtain ⟨o14, h⟩ := h
      refine j_iald E kb13 (by rw [lb13]; exact o14) dX12_keep_125 ?_
      refine j_callV E [.int (I b13 v2.toNatClampNeg)] [] (c_X12_put (gL G) (gD G) (gY G) v0 (I b13 v2.toNatClampNeg) Z I L _ hZ kv0 h) (gwV W_938 W_939 W_940 W_695 W_937) rfl ⟨rfl, fy_X12_put⟩ ⟨by decide, by decide⟩ (c := 12) rfl (by decide) kv0 rfl rfl (Nat.le_of_ble_eq_true rfl) ⟨Nat.zero_le _, Nat.zero_le _⟩ dX12_keep_126 (fun v15 Z16 I17 L18 q19 => ?_)
      obtain ⟨rfl, rfl, h⟩ := q19
      show jJ G 3 129 [(0, .ref v0), (2, .int v2)] [] Z I17 L18 0 0
      refine j_aload_n E dX12_keep_129 0 rfl ?_
      refine j_aload_n E dX12_keep_130 0 rfl ?_
      obtain ⟨b21, eb21, kb21, lb21⟩ := sh_f hZ kv0 (j := 15) (k := 14) (m := 6) rfl
      have h := h b21 eb21
      refine j_getr E 12 15 rfl rfl (by decide) (by decide) (iw iT_12) rfl rfl (tw W_733) kv0 eb21 dX12_keep_131 ?_
      refine j_iload_n E dX12_keep_134 1 rfl ?_
      obtain ⟨o22, h⟩ := h
      refine j_iald E kb21 (by rw [lb21]; exact o22) dX12_keep_135 ?_
      refine j_callV E [.int (I17 b21 v2.toNatClampNeg)] [] (c_X12_put (gL G) (gD G) (gY G) v0 (I17 b21 v2.toNatClampNeg) Z I17 L18 _ hZ kv0 h) (gwV W_938 W_939 W_940 W_695 W_937) rfl ⟨rfl, fy_X12_put⟩ ⟨by decide, by decide⟩ (c := 12) rfl (by decide) kv0 rfl rfl (Nat.le_of_ble_eq_true rfl) ⟨Nat.zero_le _, Nat.zero_le _⟩ dX12_keep_136 (fun v23 Z24 I25 L26 q27 => ?_)
      obtain ⟨rfl, rfl, h⟩ := q27
      show jJ G 3 139 [(0, .ref v0), (2, .int v2)] [] Z I25 L26 0 0
      refine j_aload_n E dX12_keep_139 0 rfl ?_
      refine j_aload_n E dX12_keep_140 0 rfl ?_
      obtain ⟨b29, eb29, kb29, lb29⟩ := sh_f hZ kv0 (j := 16) (k := 14) (m := 6) rfl
      have h := h b29 eb29
      refine j_getr E 12 16 rfl rfl (by decide) (by decide) (iw iT_12) rfl rfl (tw W_735) kv0 eb29 dX12_keep_141 ?_
      refine j_iload_n E dX12_keep_144 1 rfl ?_
      obtain ⟨o30, h⟩ := h
      refine j_iald E kb29 (by rw [lb29]; exact o30) dX12_keep_145 ?_
      refine j_callV E [.int (I25 b29 v2.toNatClampNeg)] [] (c_X12_put (gL G) (gD G) (gY G) v0 (I25 b29 v2.toNatClampNeg) Z I25 L26 _ hZ kv0 h) (gwV W_938 W_939 W_940 W_695 W_937) rfl ⟨rfl, fy_X12_put⟩ ⟨by decide, by decide⟩ (c := 12) rfl (by decide) kv0 rfl rfl (Nat.le_of_ble_eq_true rfl) ⟨Nat.zero_le _, Nat.zero_le _⟩ dX12_keep_146 (fun v31 Z32 I33 L34 q35 => ?_)
      obtain ⟨rfl, rfl, h⟩ := q35
      show jJ G 3 149 [(0, .ref v0), (2, .int v2)] [] Z I33 L34 0 0
      obtain ⟨x37, ex37⟩ : ∃ y : Int32, y = v2 + 1 := ⟨_, rfl⟩
      have h := h x37 ex37
      refine j_iinc E x37 [(2, .int x37), (0, .ref v0)] dX12_keep_149 1 rfl (by rw [ex37]; rfl) (by decide) rfl ?_
      refine j_goto E 113 dX12_keep_152 (by decide) ?_
      refine j_sub [1, 0] rfl ?_
      exact hK113 v0 x37 I33 L34 kv0 h
set_option maxRecDepth 100000 in
def f_X12_keep_L88  (Z : jZ) (Q : Int32 → jI → jL → Prop) : Nat → Nat → Int32 → jI → jL → Prop
  | 0 => fun _ _ _ _ => False
  | n + 1 => fun v0 v2 I L => (((192 : Int32) ≤ v2 → (∃ m113 : Nat, f_X12_keep_L113  Z Q m113 v0 (0 : Int32) I L)) ∧ (¬ ((192 : Int32) ≤ v2) → (∀ b40 : Nat, jr Z v0 5 = some b40 → (vp_in v2 192 ∧ (f_X12_put v0 (I b40 v2.toNatClampNeg) Z I L (fun I44 L45 => (∀ x48 : Int32, x48 = v2 + 1 → (f_X12_keep_L88 Z Q n) v0 x48 I44 L45)))))))
set_option maxHeartbeats 4000000 in
set_option maxRecDepth 100000 in
theorem m_X12_keep_L88 {G : jG} {Z : jZ} {Q : Int32 → jI → jL → Prop} (E : jE G cX12_keep RX12 w_X12_keep 3 (some .boolean) { frames := 1, cells := 0, slots := 0, locals := 22 } (rtZ Z Q)) (hZ : SH Z)  : ∀ (n : Nat) (v0 : Nat) (v2 : Int32) (I : jI) (L : jL), jk Z v0 12 → f_X12_keep_L88  Z Q n v0 v2 I L → jJ G 3 88 [(0, .ref v0), (2, .int v2)] [] Z I L 0 0 := by
  intro n
  induction n with
  | zero => intro v0 v2 I L _ h; exact h.elim
  | succ n ih =>
    intro v0 v2 I L kv0 h
    have h : (((192 : Int32) ≤ v2 → (∃ m113 : Nat, f_X12_keep_L113  Z Q m113 v0 (0 : Int32) I L)) ∧ (¬ ((192 : Int32) ≤ v2) → (∀ b40 : Nat, jr Z v0 5 = some b40 → (vp_in v2 192 ∧ (f_X12_put v0 (I b40 v2.toNatClampNeg) Z I L (fun I44 L45 => (∀ x48 : Int32, x48 = v2 + 1 → (f_X12_keep_L88 Z Q n) v0 x48 I44 L45))))))) := h
    obtain ⟨K88, eK88⟩ : ∃ K : Nat → Int32 → jI → jL → Prop, K = f_X12_keep_L88  Z Q n := ⟨_, rfl⟩
    have hK88 := ih
    clear eK88 K88
    generalize f_X12_keep_L88  Z Q n = K88 at hK88 h
    refine j_iload_n E dX12_keep_88 1 rfl ?_
    refine j_sipush E (v := 192) dX12_keep_89 (by decide) ?_
    refine j_icmp_ge E 111 dX12_keep_92 (by decide) (fun c38 => ?_) (fun c38 => ?_)
    · have h := h.1 c38
      refine j_iconst E (v := 0) dX12_keep_111 (by decide) ?_
      refine j_istore_n E 2 [(2, .int (0 : Int32)), (0, .ref v0)] dX12_keep_112 rfl (by decide) rfl ?_
      obtain ⟨n39, h⟩ := h
      refine j_sub [1, 0] rfl ?_
      exact m_X12_keep_L113 E hZ  n39 v0 (0 : Int32) I L kv0 h
    · have h := h.2 c38
      refine j_aload_n E dX12_keep_95 0 rfl ?_
      refine j_aload_n E dX12_keep_96 0 rfl ?_
      obtain ⟨b40, eb40, kb40, lb40⟩ := sh_f hZ kv0 (j := 5) (k := 14) (m := 192) rfl
      have h := h b40 eb40
      refine j_getr E 12 5 rfl rfl (by decide) (by decide) (iw iT_12) rfl rfl (tw W_699) kv0 eb40 dX12_keep_97 ?_
      refine j_iload_n E dX12_keep_100 1 rfl ?_
      obtain ⟨o41, h⟩ := h
      refine j_iald E kb40 (by rw [lb40]; exact o41) dX12_keep_101 ?_
      refine j_callV E [.int (I b40 v2.toNatClampNeg)] [] (c_X12_put (gL G) (gD G) (gY G) v0 (I b40 v2.toNatClampNeg) Z I L _ hZ kv0 h) (gwV W_938 W_939 W_940 W_695 W_937) rfl ⟨rfl, fy_X12_put⟩ ⟨by decide, by decide⟩ (c := 12) rfl (by decide) kv0 rfl rfl (Nat.le_of_ble_eq_true rfl) ⟨Nat.zero_le _, Nat.zero_le _⟩ dX12_keep_102 (fun v42 Z43 I44 L45 q46 => ?_)
      obtain ⟨rfl, rfl, h⟩ := q46
      show jJ G 3 105 [(0, .ref v0), (2, .int v2)] [] Z I44 L45 0 0
      obtain ⟨x48, ex48⟩ : ∃ y : Int32, y = v2 + 1 := ⟨_, rfl⟩
      have h := h x48 ex48
      refine j_iinc E x48 [(2, .int x48), (0, .ref v0)] dX12_keep_105 1 rfl (by rw [ex48]; rfl) (by decide) rfl ?_
      refine j_goto E 88 dX12_keep_108 (by decide) ?_
      refine j_sub [1, 0] rfl ?_
      exact hK88 v0 x48 I44 L45 kv0 h
set_option maxRecDepth 100000 in
def f_X12_keep_L54  (Z : jZ) (Q : Int32 → jI → jL → Prop) : Nat → Nat → Int32 → jI → jL → Prop
  | 0 => fun _ _ _ _ => False
  | n + 1 => fun v0 v2 I L => (((24 : Int32) ≤ v2 → (∃ m88 : Nat, f_X12_keep_L88  Z Q m88 v0 (0 : Int32) I L)) ∧ (¬ ((24 : Int32) ≤ v2) → (∀ b51 : Nat, jr Z v0 2 = some b51 → (vp_in v2 24 ∧ (f_X12_put v0 (I b51 v2.toNatClampNeg) Z I L (fun I55 L56 => (∀ b59 : Nat, jr Z v0 3 = some b59 → (vp_in v2 24 ∧ (f_X12_put v0 (I55 b59 v2.toNatClampNeg) Z I55 L56 (fun I63 L64 => (∀ x67 : Int32, x67 = v2 + 1 → (f_X12_keep_L54 Z Q n) v0 x67 I63 L64)))))))))))
set_option maxHeartbeats 4000000 in
set_option maxRecDepth 100000 in
theorem m_X12_keep_L54 {G : jG} {Z : jZ} {Q : Int32 → jI → jL → Prop} (E : jE G cX12_keep RX12 w_X12_keep 3 (some .boolean) { frames := 1, cells := 0, slots := 0, locals := 22 } (rtZ Z Q)) (hZ : SH Z)  : ∀ (n : Nat) (v0 : Nat) (v2 : Int32) (I : jI) (L : jL), jk Z v0 12 → f_X12_keep_L54  Z Q n v0 v2 I L → jJ G 3 54 [(0, .ref v0), (2, .int v2)] [] Z I L 0 0 := by
  intro n
  induction n with
  | zero => intro v0 v2 I L _ h; exact h.elim
  | succ n ih =>
    intro v0 v2 I L kv0 h
    have h : (((24 : Int32) ≤ v2 → (∃ m88 : Nat, f_X12_keep_L88  Z Q m88 v0 (0 : Int32) I L)) ∧ (¬ ((24 : Int32) ≤ v2) → (∀ b51 : Nat, jr Z v0 2 = some b51 → (vp_in v2 24 ∧ (f_X12_put v0 (I b51 v2.toNatClampNeg) Z I L (fun I55 L56 => (∀ b59 : Nat, jr Z v0 3 = some b59 → (vp_in v2 24 ∧ (f_X12_put v0 (I55 b59 v2.toNatClampNeg) Z I55 L56 (fun I63 L64 => (∀ x67 : Int32, x67 = v2 + 1 → (f_X12_keep_L54 Z Q n) v0 x67 I63 L64))))))))))) := h
    obtain ⟨K54, eK54⟩ : ∃ K : Nat → Int32 → jI → jL → Prop, K = f_X12_keep_L54  Z Q n := ⟨_, rfl⟩
    have hK54 := ih
    clear eK54 K54
    generalize f_X12_keep_L54  Z Q n = K54 at hK54 h
    refine j_iload_n E dX12_keep_54 1 rfl ?_
    refine j_bipush E (v := 24) dX12_keep_55 (by decide) ?_
    refine j_icmp_ge E 86 dX12_keep_57 (by decide) (fun c49 => ?_) (fun c49 => ?_)
    · have h := h.1 c49
      refine j_iconst E (v := 0) dX12_keep_86 (by decide) ?_
      refine j_istore_n E 2 [(2, .int (0 : Int32)), (0, .ref v0)] dX12_keep_87 rfl (by decide) rfl ?_
      obtain ⟨n50, h⟩ := h
      refine j_sub [1, 0] rfl ?_
      exact m_X12_keep_L88 E hZ  n50 v0 (0 : Int32) I L kv0 h
    · have h := h.2 c49
      refine j_aload_n E dX12_keep_60 0 rfl ?_
      refine j_aload_n E dX12_keep_61 0 rfl ?_
      obtain ⟨b51, eb51, kb51, lb51⟩ := sh_f hZ kv0 (j := 2) (k := 14) (m := 24) rfl
      have h := h b51 eb51
      refine j_getr E 12 2 rfl rfl (by decide) (by decide) (iw iT_12) rfl rfl (tw W_742) kv0 eb51 dX12_keep_62 ?_
      refine j_iload_n E dX12_keep_65 1 rfl ?_
      obtain ⟨o52, h⟩ := h
      refine j_iald E kb51 (by rw [lb51]; exact o52) dX12_keep_66 ?_
      refine j_callV E [.int (I b51 v2.toNatClampNeg)] [] (c_X12_put (gL G) (gD G) (gY G) v0 (I b51 v2.toNatClampNeg) Z I L _ hZ kv0 h) (gwV W_938 W_939 W_940 W_695 W_937) rfl ⟨rfl, fy_X12_put⟩ ⟨by decide, by decide⟩ (c := 12) rfl (by decide) kv0 rfl rfl (Nat.le_of_ble_eq_true rfl) ⟨Nat.zero_le _, Nat.zero_le _⟩ dX12_keep_67 (fun v53 Z54 I55 L56 q57 => ?_)
      obtain ⟨rfl, rfl, h⟩ := q57
      show jJ G 3 70 [(0, .ref v0), (2, .int v2)] [] Z I55 L56 0 0
      refine j_aload_n E dX12_keep_70 0 rfl ?_
      refine j_aload_n E dX12_keep_71 0 rfl ?_
      obtain ⟨b59, eb59, kb59, lb59⟩ := sh_f hZ kv0 (j := 3) (k := 14) (m := 24) rfl
      have h := h b59 eb59
      refine j_getr E 12 3 rfl rfl (by decide) (by decide) (iw iT_12) rfl rfl (tw W_743) kv0 eb59 dX12_keep_72 ?_
      refine j_iload_n E dX12_keep_75 1 rfl ?_
      obtain ⟨o60, h⟩ := h
      refine j_iald E kb59 (by rw [lb59]; exact o60) dX12_keep_76 ?_
      refine j_callV E [.int (I55 b59 v2.toNatClampNeg)] [] (c_X12_put (gL G) (gD G) (gY G) v0 (I55 b59 v2.toNatClampNeg) Z I55 L56 _ hZ kv0 h) (gwV W_938 W_939 W_940 W_695 W_937) rfl ⟨rfl, fy_X12_put⟩ ⟨by decide, by decide⟩ (c := 12) rfl (by decide) kv0 rfl rfl (Nat.le_of_ble_eq_true rfl) ⟨Nat.zero_le _, Nat.zero_le _⟩ dX12_keep_77 (fun v61 Z62 I63 L64 q65 => ?_)
      obtain ⟨rfl, rfl, h⟩ := q65
      show jJ G 3 80 [(0, .ref v0), (2, .int v2)] [] Z I63 L64 0 0
      obtain ⟨x67, ex67⟩ : ∃ y : Int32, y = v2 + 1 := ⟨_, rfl⟩
      have h := h x67 ex67
      refine j_iinc E x67 [(2, .int x67), (0, .ref v0)] dX12_keep_80 1 rfl (by rw [ex67]; rfl) (by decide) rfl ?_
      refine j_goto E 54 dX12_keep_83 (by decide) ?_
      refine j_sub [1, 0] rfl ?_
      exact hK54 v0 x67 I63 L64 kv0 h
set_option maxRecDepth 100000 in
def f_X12_keep (v0 : Nat) (v1 : Int32) (Z : jZ) (I : jI) (L : jL) (Q : Int32 → jI → jL → Prop) : Prop := (∀ I68 : jI, I68 = jpI I v0 22 (0 : Int32) → (f_X12_in v1 (0 : Int32) (1 : Int32) Z I68 L (fun r75 I71 L72 => ((¬ r75 = 0 → (∀ b77 : Nat, jr Z v0 63 = some b77 → (vp_in v1 2 ∧ (∀ I79 : jI, I79 = jpI I71 b77 v1.toNatClampNeg (vp_nar .boolean (1 : Int32)) → (∀ b80 : Nat, jr Z v0 64 = some b80 → (vp_in v1 2 ∧ (∀ I82 : jI, I82 = jpI I79 b80 v1.toNatClampNeg (I79 v0 7) → (∀ b83 : Nat, jr Z v0 65 = some b83 → (vp_in v1 2 ∧ (∀ I85 : jI, I85 = jpI I82 b83 v1.toNatClampNeg (I82 v0 8) → (∀ I86 : jI, I86 = jpI I85 v0 66 ((266 : Int32) * v1) → (∃ m54 : Nat, f_X12_keep_L54  Z Q m54 v0 (0 : Int32) I86 L72)))))))))))) ∧ (r75 = 0 → Q (0 : Int32) I71 L72)))))
set_option maxHeartbeats 4000000 in
set_option maxRecDepth 100000 in
theorem c_X12_keep (l : Launch) (D : va_G) (cy : jC) (v0 : Nat) (v1 : Int32) (Z : jZ) (I : jI) (L : jL) (Q : Int32 → jI → jL → Prop) (hZ : SH Z) (kv0 : jk Z v0 12) (h : f_X12_keep v0 v1 Z I L Q) : jCt l yX12_keep w_X12_keep { frames := 1, cells := 0, slots := 0, locals := 22 } D cy [.ref v0, .int v1] Z I L (rtZ Z Q) := by
  refine jCt_of (cc := cX12_keep) (maxL := 3) (ret := (some .boolean)) (by decide +kernel) rfl (Nat.le_of_ble_eq_true rfl) ?_
  intro G eD eY eL E
  subst eD; subst eY; subst eL
  have E : jE G cX12_keep RX12 w_X12_keep 3 (some .boolean) { frames := 1, cells := 0, slots := 0, locals := 22 } (rtZ Z Q) := E
  show jJ G 3 0 [(0, .ref v0), (1, .int v1)] [] Z I L 0 0
  refine j_aload_n E dX12_keep_0 0 rfl ?_
  refine j_iconst E (v := 0) dX12_keep_1 (by decide) ?_
  refine j_puti E 12 22 rfl rfl (by decide) (by decide) (iw iT_12) tyX12_ok nmX12 rfl rfl (tw W_690) rfl rfl rfl kv0 dX12_keep_2 ?_
  refine j_nmI (fun I68 eI68 => ?_)
  have h := h I68 eI68
  refine j_iload_n E dX12_keep_5 1 rfl ?_
  refine j_iconst E (v := 0) dX12_keep_6 (by decide) ?_
  refine j_iconst E (v := 1) dX12_keep_7 (by decide) ?_
  refine j_callS E [.int v1, .int (0 : Int32), .int (1 : Int32)] [] (c_X12_in (gL G) (gD G) (gY G) v1 (0 : Int32) (1 : Int32) Z I68 L _ hZ  h) (gwS W_696 W_697 W_695 W_694) rfl fy_X12_in ⟨by decide, by decide⟩ rfl rfl (Nat.le_of_ble_eq_true rfl) ⟨Nat.zero_le _, Nat.zero_le _⟩ dX12_keep_8 (fun v69 Z70 I71 L72 q73 => ?_)
  obtain ⟨rfl, r75, rfl, zr75, h⟩ := q73
  show jJ G 3 11 [(0, .ref v0), (1, .int v1)] [.int r75] Z I71 L72 0 0
  refine j_if_ne E 16 dX12_keep_11 (by decide) (fun c76 => ?_) (fun c76 => ?_)
  · have h := h.1 c76
    refine j_aload_n E dX12_keep_16 0 rfl ?_
    obtain ⟨b77, eb77, kb77, lb77⟩ := sh_f hZ kv0 (j := 63) (k := 16) (m := 2) rfl
    have h := h b77 eb77
    refine j_getr E 12 63 rfl rfl (by decide) (by decide) (iw iT_12) rfl rfl (tw W_941) kv0 eb77 dX12_keep_17 ?_
    refine j_iload_n E dX12_keep_20 1 rfl ?_
    refine j_iconst E (v := 1) dX12_keep_21 (by decide) ?_
    obtain ⟨o78, h⟩ := h
    refine j_zast E kb77 (by rw [lb77]; exact o78) dX12_keep_22 ?_
    refine j_nmI (fun I79 eI79 => ?_)
    have h := h I79 eI79
    refine j_aload_n E dX12_keep_23 0 rfl ?_
    obtain ⟨b80, eb80, kb80, lb80⟩ := sh_f hZ kv0 (j := 64) (k := 14) (m := 2) rfl
    have h := h b80 eb80
    refine j_getr E 12 64 rfl rfl (by decide) (by decide) (iw iT_12) rfl rfl (tw W_942) kv0 eb80 dX12_keep_24 ?_
    refine j_iload_n E dX12_keep_27 1 rfl ?_
    refine j_aload_n E dX12_keep_28 0 rfl ?_
    refine j_geti E 12 7 rfl rfl (by decide) (by decide) (iw iT_12) rfl rfl (tw W_739) kv0 dX12_keep_29 ?_
    obtain ⟨o81, h⟩ := h
    refine j_iast E kb80 (by rw [lb80]; exact o81) dX12_keep_32 ?_
    refine j_nmI (fun I82 eI82 => ?_)
    have h := h I82 eI82
    refine j_aload_n E dX12_keep_33 0 rfl ?_
    obtain ⟨b83, eb83, kb83, lb83⟩ := sh_f hZ kv0 (j := 65) (k := 14) (m := 2) rfl
    have h := h b83 eb83
    refine j_getr E 12 65 rfl rfl (by decide) (by decide) (iw iT_12) rfl rfl (tw W_943) kv0 eb83 dX12_keep_34 ?_
    refine j_iload_n E dX12_keep_37 1 rfl ?_
    refine j_aload_n E dX12_keep_38 0 rfl ?_
    refine j_geti E 12 8 rfl rfl (by decide) (by decide) (iw iT_12) rfl rfl (tw W_698) kv0 dX12_keep_39 ?_
    obtain ⟨o84, h⟩ := h
    refine j_iast E kb83 (by rw [lb83]; exact o84) dX12_keep_42 ?_
    refine j_nmI (fun I85 eI85 => ?_)
    have h := h I85 eI85
    refine j_aload_n E dX12_keep_43 0 rfl ?_
    refine j_sipush E (v := 266) dX12_keep_44 (by decide) ?_
    refine j_iload_n E dX12_keep_47 1 rfl ?_
    refine j_imul E dX12_keep_48 ?_
    refine j_puti E 12 66 rfl rfl (by decide) (by decide) (iw iT_12) tyX12_ok nmX12 rfl rfl (tw W_936) rfl rfl rfl kv0 dX12_keep_49 ?_
    refine j_nmI (fun I86 eI86 => ?_)
    have h := h I86 eI86
    refine j_iconst E (v := 0) dX12_keep_52 (by decide) ?_
    refine j_istore_n E 2 [(2, .int (0 : Int32)), (0, .ref v0), (1, .int v1)] dX12_keep_53 rfl (by decide) rfl ?_
    obtain ⟨n87, h⟩ := h
    refine j_sub [1, 0] rfl ?_
    exact m_X12_keep_L54 E hZ  n87 v0 (0 : Int32) I86 L72 kv0 h
  · have h := h.2 c76
    refine j_iconst E (v := 0) dX12_keep_14 (by decide) ?_
    exact j_zreturn E (Or.inl rfl) ⟨rfl, _, rfl, (Or.inl rfl), h⟩ (Nat.zero_le _) (Nat.zero_le _) dX12_keep_15
set_option maxRecDepth 100000 in
def f_X12_again_L175  (Z : jZ) (Q : Int32 → jI → jL → Prop) : Nat → Nat → Int32 → jI → jL → Prop
  | 0 => fun _ _ _ _ => False
  | n + 1 => fun v0 v2 I L => (((8 : Int32) ≤ v2 → (∀ I2 : jI, I2 = jpI I v0 52 (0 : Int32) → Q (1 : Int32) I2 L)) ∧ (¬ ((8 : Int32) ≤ v2) → (∀ b3 : Nat, jr Z v0 17 = some b3 → (f_X12_take v0 Z I L (fun r10 I6 L7 => (vp_in v2 8 ∧ (∀ I12 : jI, I12 = jpI I6 b3 v2.toNatClampNeg r10 → (∀ x13 : Int32, x13 = v2 + 1 → (f_X12_again_L175 Z Q n) v0 x13 I12 L7))))))))
set_option maxHeartbeats 4000000 in
set_option maxRecDepth 100000 in
theorem m_X12_again_L175 {G : jG} {Z : jZ} {Q : Int32 → jI → jL → Prop} (E : jE G cX12_again RX12 w_X12_again 6 (some .boolean) { frames := 1, cells := 0, slots := 0, locals := 22 } (rtZ Z Q)) (hZ : SH Z)  : ∀ (n : Nat) (v0 : Nat) (v2 : Int32) (I : jI) (L : jL), jk Z v0 12 → f_X12_again_L175  Z Q n v0 v2 I L → jJ G 6 175 [(0, .ref v0), (2, .int v2)] [] Z I L 0 0 := by
  intro n
  induction n with
  | zero => intro v0 v2 I L _ h; exact h.elim
  | succ n ih =>
    intro v0 v2 I L kv0 h
    have h : (((8 : Int32) ≤ v2 → (∀ I2 : jI, I2 = jpI I v0 52 (0 : Int32) → Q (1 : Int32) I2 L)) ∧ (¬ ((8 : Int32) ≤ v2) → (∀ b3 : Nat, jr Z v0 17 = some b3 → (f_X12_take v0 Z I L (fun r10 I6 L7 => (vp_in v2 8 ∧ (∀ I12 : jI, I12 = jpI I6 b3 v2.toNatClampNeg r10 → (∀ x13 : Int32, x13 = v2 + 1 → (f_X12_again_L175 Z Q n) v0 x13 I12 L7)))))))) := h
    obtain ⟨K175, eK175⟩ : ∃ K : Nat → Int32 → jI → jL → Prop, K = f_X12_again_L175  Z Q n := ⟨_, rfl⟩
    have hK175 := ih
    clear eK175 K175
    generalize f_X12_again_L175  Z Q n = K175 at hK175 h
    refine j_iload_n E dX12_again_175 1 rfl ?_
    refine j_bipush E (v := 8) dX12_again_176 (by decide) ?_
    refine j_icmp_ge E 197 dX12_again_178 (by decide) (fun c1 => ?_) (fun c1 => ?_)
    · have h := h.1 c1
      refine j_aload_n E dX12_again_197 0 rfl ?_
      refine j_iconst E (v := 0) dX12_again_198 (by decide) ?_
      refine j_puti E 12 52 rfl rfl (by decide) (by decide) (iw iT_12) tyX12_ok nmX12 rfl rfl (tw W_740) rfl rfl rfl kv0 dX12_again_199 ?_
      refine j_nmI (fun I2 eI2 => ?_)
      have h := h I2 eI2
      refine j_iconst E (v := 1) dX12_again_202 (by decide) ?_
      exact j_zreturn E (Or.inr rfl) ⟨rfl, _, rfl, (Or.inr rfl), h⟩ (Nat.zero_le _) (Nat.zero_le _) dX12_again_203
    · have h := h.2 c1
      refine j_aload_n E dX12_again_181 0 rfl ?_
      obtain ⟨b3, eb3, kb3, lb3⟩ := sh_f hZ kv0 (j := 17) (k := 14) (m := 8) rfl
      have h := h b3 eb3
      refine j_getr E 12 17 rfl rfl (by decide) (by decide) (iw iT_12) rfl rfl (tw W_737) kv0 eb3 dX12_again_182 ?_
      refine j_iload_n E dX12_again_185 1 rfl ?_
      refine j_aload_n E dX12_again_186 0 rfl ?_
      refine j_callV E [] [.int v2, .ref b3] (c_X12_take (gL G) (gD G) (gY G) v0 Z I L _ hZ kv0 h) (gwV W_945 W_946 W_947 W_695 W_944) rfl ⟨rfl, fy_X12_take⟩ ⟨by decide, by decide⟩ (c := 12) rfl (by decide) kv0 rfl rfl (Nat.le_of_ble_eq_true rfl) ⟨Nat.zero_le _, Nat.zero_le _⟩ dX12_again_187 (fun v4 Z5 I6 L7 q8 => ?_)
      obtain ⟨rfl, r10, rfl, h⟩ := q8
      show jJ G 6 190 [(0, .ref v0), (2, .int v2)] [.int r10, .int v2, .ref b3] Z I6 L7 0 0
      obtain ⟨o11, h⟩ := h
      refine j_iast E kb3 (by rw [lb3]; exact o11) dX12_again_190 ?_
      refine j_nmI (fun I12 eI12 => ?_)
      have h := h I12 eI12
      obtain ⟨x13, ex13⟩ : ∃ y : Int32, y = v2 + 1 := ⟨_, rfl⟩
      have h := h x13 ex13
      refine j_iinc E x13 [(2, .int x13), (0, .ref v0)] dX12_again_191 1 rfl (by rw [ex13]; rfl) (by decide) rfl ?_
      refine j_goto E 175 dX12_again_194 (by decide) ?_
      refine j_sub [1, 0] rfl ?_
      exact hK175 v0 x13 I12 L7 kv0 h
set_option maxRecDepth 100000 in
def f_X12_again_b167 (K108 : Nat → Int32 → Int32 → jI → jL → Prop) (Z : jZ) (Q : Int32 → jI → jL → Prop) (v0 : Nat) (v1 : Int32) (v2 : Int32) (I : jI) (L : jL) : Prop := (∀ x14 : Int32, x14 = v2 + 1 → K108 v0 v1 x14 I L)
set_option maxHeartbeats 4000000 in
set_option maxRecDepth 100000 in
theorem m_X12_again_b167 {G : jG} {Z : jZ} {Q : Int32 → jI → jL → Prop} (E : jE G cX12_again RX12 w_X12_again 6 (some .boolean) { frames := 1, cells := 0, slots := 0, locals := 22 } (rtZ Z Q)) (hZ : SH Z) (K108 : Nat → Int32 → Int32 → jI → jL → Prop) (hK108 : ∀ (v0 : Nat) (v1 : Int32) (v2 : Int32) (I : jI) (L : jL), jk Z v0 12 → K108 v0 v1 v2 I L → jJ G 6 108 [(0, .ref v0), (1, .int v1), (2, .int v2)] [] Z I L 0 0) (v0 : Nat) (v1 : Int32) (v2 : Int32) (I : jI) (L : jL) (kv0 : jk Z v0 12) (h : f_X12_again_b167 K108 Z Q v0 v1 v2 I L) : jJ G 6 167 [(0, .ref v0), (1, .int v1), (2, .int v2)] [] Z I L 0 0 := by
  obtain ⟨x14, ex14⟩ : ∃ y : Int32, y = v2 + 1 := ⟨_, rfl⟩
  have h := h x14 ex14
  refine j_iinc E x14 [(2, .int x14), (0, .ref v0), (1, .int v1)] dX12_again_167 2 rfl (by rw [ex14]; rfl) (by decide) rfl ?_
  refine j_goto E 108 dX12_again_170 (by decide) ?_
  refine j_sub [1, 2, 0] rfl ?_
  exact hK108 v0 v1 x14 I L kv0 h
set_option maxRecDepth 100000 in
def f_X12_again_L108  (Z : jZ) (Q : Int32 → jI → jL → Prop) : Nat → Nat → Int32 → Int32 → jI → jL → Prop
  | 0 => fun _ _ _ _ _ => False
  | n + 1 => fun v0 v1 v2 I L => (((6 : Int32) ≤ v2 → (∃ m175 : Nat, f_X12_again_L175  Z Q m175 v0 (0 : Int32) I L)) ∧ (¬ ((6 : Int32) ≤ v2) → (f_X12_take v0 Z I L (fun r23 I19 L20 => (f_X12_take v0 Z I19 L20 (fun r30 I26 L27 => (f_X12_take v0 Z I26 L27 (fun r37 I33 L34 => (∀ b38 : Nat, jr Z v0 65 = some b38 → (vp_in v1 2 ∧ ((v2 < (I33 b38 v1.toNatClampNeg) → (∀ b41 : Nat, jr Z v0 14 = some b41 → (vp_in v2 6 ∧ (∀ I43 : jI, I43 = jpI I33 b41 v2.toNatClampNeg r23 → (∀ b44 : Nat, jr Z v0 15 = some b44 → (vp_in v2 6 ∧ (∀ I46 : jI, I46 = jpI I43 b44 v2.toNatClampNeg r30 → (∀ b47 : Nat, jr Z v0 16 = some b47 → (vp_in v2 6 ∧ (∀ I49 : jI, I49 = jpI I46 b47 v2.toNatClampNeg r37 → f_X12_again_b167 (f_X12_again_L108 Z Q n) Z Q v0 v1 v2 I49 L34)))))))))) ∧ (¬ (v2 < (I33 b38 v1.toNatClampNeg)) → f_X12_again_b167 (f_X12_again_L108 Z Q n) Z Q v0 v1 v2 I33 L34))))))))))))
set_option maxHeartbeats 4000000 in
set_option maxRecDepth 100000 in
theorem m_X12_again_L108 {G : jG} {Z : jZ} {Q : Int32 → jI → jL → Prop} (E : jE G cX12_again RX12 w_X12_again 6 (some .boolean) { frames := 1, cells := 0, slots := 0, locals := 22 } (rtZ Z Q)) (hZ : SH Z)  : ∀ (n : Nat) (v0 : Nat) (v1 : Int32) (v2 : Int32) (I : jI) (L : jL), jk Z v0 12 → f_X12_again_L108  Z Q n v0 v1 v2 I L → jJ G 6 108 [(0, .ref v0), (1, .int v1), (2, .int v2)] [] Z I L 0 0 := by
  intro n
  induction n with
  | zero => intro v0 v1 v2 I L _ h; exact h.elim
  | succ n ih =>
    intro v0 v1 v2 I L kv0 h
    have h : (((6 : Int32) ≤ v2 → (∃ m175 : Nat, f_X12_again_L175  Z Q m175 v0 (0 : Int32) I L)) ∧ (¬ ((6 : Int32) ≤ v2) → (f_X12_take v0 Z I L (fun r23 I19 L20 => (f_X12_take v0 Z I19 L20 (fun r30 I26 L27 => (f_X12_take v0 Z I26 L27 (fun r37 I33 L34 => (∀ b38 : Nat, jr Z v0 65 = some b38 → (vp_in v1 2 ∧ ((v2 < (I33 b38 v1.toNatClampNeg) → (∀ b41 : Nat, jr Z v0 14 = some b41 → (vp_in v2 6 ∧ (∀ I43 : jI, I43 = jpI I33 b41 v2.toNatClampNeg r23 → (∀ b44 : Nat, jr Z v0 15 = some b44 → (vp_in v2 6 ∧ (∀ I46 : jI, I46 = jpI I43 b44 v2.toNatClampNeg r30 → (∀ b47 : Nat, jr Z v0 16 = some b47 → (vp_in v2 6 ∧ (∀ I49 : jI, I49 = jpI I46 b47 v2.toNatClampNeg r37 → f_X12_again_b167 (f_X12_again_L108 Z Q n) Z Q v0 v1 v2 I49 L34)))))))))) ∧ (¬ (v2 < (I33 b38 v1.toNatClampNeg)) → f_X12_again_b167 (f_X12_again_L108 Z Q n) Z Q v0 v1 v2 I33 L34)))))))))))) := h
    obtain ⟨K108, eK108⟩ : ∃ K : Nat → Int32 → Int32 → jI → jL → Prop, K = f_X12_again_L108  Z Q n := ⟨_, rfl⟩
    have hK108 := ih
    clear eK108 K108
    generalize f_X12_again_L108  Z Q n = K108 at hK108 h
    refine j_iload_n E dX12_again_108 2 rfl ?_
    refine j_bipush E (v := 6) dX12_again_109 (by decide) ?_
    refine j_icmp_ge E 173 dX12_again_111 (by decide) (fun c15 => ?_) (fun c15 => ?_)
    · have h := h.1 c15
      refine j_iconst E (v := 0) dX12_again_173 (by decide) ?_
      refine j_istore_n E 2 [(2, .int (0 : Int32)), (0, .ref v0), (1, .int v1)] dX12_again_174 rfl (by decide) rfl ?_
      obtain ⟨n16, h⟩ := h
      refine j_sub [1, 0] rfl ?_
      exact m_X12_again_L175 E hZ  n16 v0 (0 : Int32) I L kv0 h
    · have h := h.2 c15
      refine j_aload_n E dX12_again_114 0 rfl ?_
      refine j_callV E [] [] (c_X12_take (gL G) (gD G) (gY G) v0 Z I L _ hZ kv0 h) (gwV W_945 W_946 W_947 W_695 W_944) rfl ⟨rfl, fy_X12_take⟩ ⟨by decide, by decide⟩ (c := 12) rfl (by decide) kv0 rfl rfl (Nat.le_of_ble_eq_true rfl) ⟨Nat.zero_le _, Nat.zero_le _⟩ dX12_again_115 (fun v17 Z18 I19 L20 q21 => ?_)
      obtain ⟨rfl, r23, rfl, h⟩ := q21
      show jJ G 6 118 [(0, .ref v0), (1, .int v1), (2, .int v2)] [.int r23] Z I19 L20 0 0
      refine j_istore_n E 3 [(3, .int r23), (0, .ref v0), (1, .int v1), (2, .int v2)] dX12_again_118 rfl (by decide) rfl ?_
      refine j_aload_n E dX12_again_119 1 rfl ?_
      refine j_callV E [] [] (c_X12_take (gL G) (gD G) (gY G) v0 Z I19 L20 _ hZ kv0 h) (gwV W_945 W_946 W_947 W_695 W_944) rfl ⟨rfl, fy_X12_take⟩ ⟨by decide, by decide⟩ (c := 12) rfl (by decide) kv0 rfl rfl (Nat.le_of_ble_eq_true rfl) ⟨Nat.zero_le _, Nat.zero_le _⟩ dX12_again_120 (fun v24 Z25 I26 L27 q28 => ?_)
      obtain ⟨rfl, r30, rfl, h⟩ := q28
      show jJ G 6 123 [(3, .int r23), (0, .ref v0), (1, .int v1), (2, .int v2)] [.int r30] Z I26 L27 0 0
      refine j_istore E 4 [(4, .int r30), (3, .int r23), (0, .ref v0), (1, .int v1), (2, .int v2)] dX12_again_123 (by decide) rfl ?_
      refine j_aload_n E dX12_again_125 2 rfl ?_
      refine j_callV E [] [] (c_X12_take (gL G) (gD G) (gY G) v0 Z I26 L27 _ hZ kv0 h) (gwV W_945 W_946 W_947 W_695 W_944) rfl ⟨rfl, fy_X12_take⟩ ⟨by decide, by decide⟩ (c := 12) rfl (by decide) kv0 rfl rfl (Nat.le_of_ble_eq_true rfl) ⟨Nat.zero_le _, Nat.zero_le _⟩ dX12_again_126 (fun v31 Z32 I33 L34 q35 => ?_)
      obtain ⟨rfl, r37, rfl, h⟩ := q35
      show jJ G 6 129 [(4, .int r30), (3, .int r23), (0, .ref v0), (1, .int v1), (2, .int v2)] [.int r37] Z I33 L34 0 0
      refine j_istore E 5 [(5, .int r37), (4, .int r30), (3, .int r23), (0, .ref v0), (1, .int v1), (2, .int v2)] dX12_again_129 (by decide) rfl ?_
      refine j_iload_n E dX12_again_131 5 rfl ?_
      refine j_aload_n E dX12_again_132 3 rfl ?_
      obtain ⟨b38, eb38, kb38, lb38⟩ := sh_f hZ kv0 (j := 65) (k := 14) (m := 2) rfl
      have h := h b38 eb38
      refine j_getr E 12 65 rfl rfl (by decide) (by decide) (iw iT_12) rfl rfl (tw W_943) kv0 eb38 dX12_again_133 ?_
      refine j_iload_n E dX12_again_136 4 rfl ?_
      obtain ⟨o39, h⟩ := h
      refine j_iald E kb38 (by rw [lb38]; exact o39) dX12_again_137 ?_
      refine j_icmp_lt E 144 dX12_again_138 (by decide) (fun c40 => ?_) (fun c40 => ?_)
      · have h := h.1 c40
        refine j_aload_n E dX12_again_144 3 rfl ?_
        obtain ⟨b41, eb41, kb41, lb41⟩ := sh_f hZ kv0 (j := 14) (k := 14) (m := 6) rfl
        have h := h b41 eb41
        refine j_getr E 12 14 rfl rfl (by decide) (by decide) (iw iT_12) rfl rfl (tw W_732) kv0 eb41 dX12_again_145 ?_
        refine j_iload_n E dX12_again_148 5 rfl ?_
        refine j_iload_n E dX12_again_149 2 rfl ?_
        obtain ⟨o42, h⟩ := h
        refine j_iast E kb41 (by rw [lb41]; exact o42) dX12_again_150 ?_
        refine j_nmI (fun I43 eI43 => ?_)
        have h := h I43 eI43
        refine j_aload_n E dX12_again_151 3 rfl ?_
        obtain ⟨b44, eb44, kb44, lb44⟩ := sh_f hZ kv0 (j := 15) (k := 14) (m := 6) rfl
        have h := h b44 eb44
        refine j_getr E 12 15 rfl rfl (by decide) (by decide) (iw iT_12) rfl rfl (tw W_733) kv0 eb44 dX12_again_152 ?_
        refine j_iload_n E dX12_again_155 5 rfl ?_
        refine j_iload E dX12_again_156 1 rfl ?_
        obtain ⟨o45, h⟩ := h
        refine j_iast E kb44 (by rw [lb44]; exact o45) dX12_again_158 ?_
        refine j_nmI (fun I46 eI46 => ?_)
        have h := h I46 eI46
        refine j_aload_n E dX12_again_159 3 rfl ?_
        obtain ⟨b47, eb47, kb47, lb47⟩ := sh_f hZ kv0 (j := 16) (k := 14) (m := 6) rfl
        have h := h b47 eb47
        refine j_getr E 12 16 rfl rfl (by decide) (by decide) (iw iT_12) rfl rfl (tw W_735) kv0 eb47 dX12_again_160 ?_
        refine j_iload_n E dX12_again_163 5 rfl ?_
        refine j_iload E dX12_again_164 0 rfl ?_
        obtain ⟨o48, h⟩ := h
        refine j_iast E kb47 (by rw [lb47]; exact o48) dX12_again_166 ?_
        refine j_nmI (fun I49 eI49 => ?_)
        have h := h I49 eI49
        refine j_sub [3, 4, 5] rfl ?_
        exact m_X12_again_b167 E hZ K108 hK108 v0 v1 v2 I49 L34 kv0 h
      · have h := h.2 c40
        refine j_goto E 167 dX12_again_141 (by decide) ?_
        refine j_sub [3, 4, 5] rfl ?_
        exact m_X12_again_b167 E hZ K108 hK108 v0 v1 v2 I33 L34 kv0 h
set_option maxRecDepth 100000 in
def f_X12_again_L83  (Z : jZ) (Q : Int32 → jI → jL → Prop) : Nat → Nat → Int32 → Int32 → jI → jL → Prop
  | 0 => fun _ _ _ _ _ => False
  | n + 1 => fun v0 v1 v2 I L => (((192 : Int32) ≤ v2 → (∃ m108 : Nat, f_X12_again_L108  Z Q m108 v0 v1 (0 : Int32) I L)) ∧ (¬ ((192 : Int32) ≤ v2) → (∀ b52 : Nat, jr Z v0 5 = some b52 → (f_X12_take v0 Z I L (fun r59 I55 L56 => (vp_in v2 192 ∧ (∀ I61 : jI, I61 = jpI I55 b52 v2.toNatClampNeg r59 → (∀ x62 : Int32, x62 = v2 + 1 → (f_X12_again_L83 Z Q n) v0 v1 x62 I61 L56))))))))
set_option maxHeartbeats 4000000 in
set_option maxRecDepth 100000 in
theorem m_X12_again_L83 {G : jG} {Z : jZ} {Q : Int32 → jI → jL → Prop} (E : jE G cX12_again RX12 w_X12_again 6 (some .boolean) { frames := 1, cells := 0, slots := 0, locals := 22 } (rtZ Z Q)) (hZ : SH Z)  : ∀ (n : Nat) (v0 : Nat) (v1 : Int32) (v2 : Int32) (I : jI) (L : jL), jk Z v0 12 → f_X12_again_L83  Z Q n v0 v1 v2 I L → jJ G 6 83 [(0, .ref v0), (1, .int v1), (2, .int v2)] [] Z I L 0 0 := by
  intro n
  induction n with
  | zero => intro v0 v1 v2 I L _ h; exact h.elim
  | succ n ih =>
    intro v0 v1 v2 I L kv0 h
    have h : (((192 : Int32) ≤ v2 → (∃ m108 : Nat, f_X12_again_L108  Z Q m108 v0 v1 (0 : Int32) I L)) ∧ (¬ ((192 : Int32) ≤ v2) → (∀ b52 : Nat, jr Z v0 5 = some b52 → (f_X12_take v0 Z I L (fun r59 I55 L56 => (vp_in v2 192 ∧ (∀ I61 : jI, I61 = jpI I55 b52 v2.toNatClampNeg r59 → (∀ x62 : Int32, x62 = v2 + 1 → (f_X12_again_L83 Z Q n) v0 v1 x62 I61 L56)))))))) := h
    obtain ⟨K83, eK83⟩ : ∃ K : Nat → Int32 → Int32 → jI → jL → Prop, K = f_X12_again_L83  Z Q n := ⟨_, rfl⟩
    have hK83 := ih
    clear eK83 K83
    generalize f_X12_again_L83  Z Q n = K83 at hK83 h
    refine j_iload_n E dX12_again_83 2 rfl ?_
    refine j_sipush E (v := 192) dX12_again_84 (by decide) ?_
    refine j_icmp_ge E 106 dX12_again_87 (by decide) (fun c50 => ?_) (fun c50 => ?_)
    · have h := h.1 c50
      refine j_iconst E (v := 0) dX12_again_106 (by decide) ?_
      refine j_istore_n E 2 [(2, .int (0 : Int32)), (0, .ref v0), (1, .int v1)] dX12_again_107 rfl (by decide) rfl ?_
      obtain ⟨n51, h⟩ := h
      refine j_sub [1, 2, 0] rfl ?_
      exact m_X12_again_L108 E hZ  n51 v0 v1 (0 : Int32) I L kv0 h
    · have h := h.2 c50
      refine j_aload_n E dX12_again_90 0 rfl ?_
      obtain ⟨b52, eb52, kb52, lb52⟩ := sh_f hZ kv0 (j := 5) (k := 14) (m := 192) rfl
      have h := h b52 eb52
      refine j_getr E 12 5 rfl rfl (by decide) (by decide) (iw iT_12) rfl rfl (tw W_699) kv0 eb52 dX12_again_91 ?_
      refine j_iload_n E dX12_again_94 2 rfl ?_
      refine j_aload_n E dX12_again_95 0 rfl ?_
      refine j_callV E [] [.int v2, .ref b52] (c_X12_take (gL G) (gD G) (gY G) v0 Z I L _ hZ kv0 h) (gwV W_945 W_946 W_947 W_695 W_944) rfl ⟨rfl, fy_X12_take⟩ ⟨by decide, by decide⟩ (c := 12) rfl (by decide) kv0 rfl rfl (Nat.le_of_ble_eq_true rfl) ⟨Nat.zero_le _, Nat.zero_le _⟩ dX12_again_96 (fun v53 Z54 I55 L56 q57 => ?_)
      obtain ⟨rfl, r59, rfl, h⟩ := q57
      show jJ G 6 99 [(0, .ref v0), (1, .int v1), (2, .int v2)] [.int r59, .int v2, .ref b52] Z I55 L56 0 0
      obtain ⟨o60, h⟩ := h
      refine j_iast E kb52 (by rw [lb52]; exact o60) dX12_again_99 ?_
      refine j_nmI (fun I61 eI61 => ?_)
      have h := h I61 eI61
      obtain ⟨x62, ex62⟩ : ∃ y : Int32, y = v2 + 1 := ⟨_, rfl⟩
      have h := h x62 ex62
      refine j_iinc E x62 [(2, .int x62), (0, .ref v0), (1, .int v1)] dX12_again_100 2 rfl (by rw [ex62]; rfl) (by decide) rfl ?_
      refine j_goto E 83 dX12_again_103 (by decide) ?_
      refine j_sub [1, 2, 0] rfl ?_
      exact hK83 v0 v1 x62 I61 L56 kv0 h
set_option maxRecDepth 100000 in
def f_X12_again_L49  (Z : jZ) (Q : Int32 → jI → jL → Prop) : Nat → Nat → Int32 → Int32 → jI → jL → Prop
  | 0 => fun _ _ _ _ _ => False
  | n + 1 => fun v0 v1 v2 I L => (((24 : Int32) ≤ v2 → (∃ m83 : Nat, f_X12_again_L83  Z Q m83 v0 v1 (0 : Int32) I L)) ∧ (¬ ((24 : Int32) ≤ v2) → (∀ b65 : Nat, jr Z v0 2 = some b65 → (f_X12_take v0 Z I L (fun r72 I68 L69 => (vp_in v2 24 ∧ (∀ I74 : jI, I74 = jpI I68 b65 v2.toNatClampNeg r72 → (∀ b75 : Nat, jr Z v0 3 = some b75 → (f_X12_take v0 Z I74 L69 (fun r82 I78 L79 => (vp_in v2 24 ∧ (∀ I84 : jI, I84 = jpI I78 b75 v2.toNatClampNeg r82 → (∀ x85 : Int32, x85 = v2 + 1 → (f_X12_again_L49 Z Q n) v0 v1 x85 I84 L79)))))))))))))
set_option maxHeartbeats 4000000 in
set_option maxRecDepth 100000 in
theorem m_X12_again_L49 {G : jG} {Z : jZ} {Q : Int32 → jI → jL → Prop} (E : jE G cX12_again RX12 w_X12_again 6 (some .boolean) { frames := 1, cells := 0, slots := 0, locals := 22 } (rtZ Z Q)) (hZ : SH Z)  : ∀ (n : Nat) (v0 : Nat) (v1 : Int32) (v2 : Int32) (I : jI) (L : jL), jk Z v0 12 → f_X12_again_L49  Z Q n v0 v1 v2 I L → jJ G 6 49 [(0, .ref v0), (1, .int v1), (2, .int v2)] [] Z I L 0 0 := by
  intro n
  induction n with
  | zero => intro v0 v1 v2 I L _ h; exact h.elim
  | succ n ih =>
    intro v0 v1 v2 I L kv0 h
    have h : (((24 : Int32) ≤ v2 → (∃ m83 : Nat, f_X12_again_L83  Z Q m83 v0 v1 (0 : Int32) I L)) ∧ (¬ ((24 : Int32) ≤ v2) → (∀ b65 : Nat, jr Z v0 2 = some b65 → (f_X12_take v0 Z I L (fun r72 I68 L69 => (vp_in v2 24 ∧ (∀ I74 : jI, I74 = jpI I68 b65 v2.toNatClampNeg r72 → (∀ b75 : Nat, jr Z v0 3 = some b75 → (f_X12_take v0 Z I74 L69 (fun r82 I78 L79 => (vp_in v2 24 ∧ (∀ I84 : jI, I84 = jpI I78 b75 v2.toNatClampNeg r82 → (∀ x85 : Int32, x85 = v2 + 1 → (f_X12_again_L49 Z Q n) v0 v1 x85 I84 L79))))))))))))) := h
    obtain ⟨K49, eK49⟩ : ∃ K : Nat → Int32 → Int32 → jI → jL → Prop, K = f_X12_again_L49  Z Q n := ⟨_, rfl⟩
    have hK49 := ih
    clear eK49 K49
    generalize f_X12_again_L49  Z Q n = K49 at hK49 h
    refine j_iload_n E dX12_again_49 2 rfl ?_
    refine j_bipush E (v := 24) dX12_again_50 (by decide) ?_
    refine j_icmp_ge E 81 dX12_again_52 (by decide) (fun c63 => ?_) (fun c63 => ?_)
    · have h := h.1 c63
      refine j_iconst E (v := 0) dX12_again_81 (by decide) ?_
      refine j_istore_n E 2 [(2, .int (0 : Int32)), (0, .ref v0), (1, .int v1)] dX12_again_82 rfl (by decide) rfl ?_
      obtain ⟨n64, h⟩ := h
      refine j_sub [1, 2, 0] rfl ?_
      exact m_X12_again_L83 E hZ  n64 v0 v1 (0 : Int32) I L kv0 h
    · have h := h.2 c63
      refine j_aload_n E dX12_again_55 0 rfl ?_
      obtain ⟨b65, eb65, kb65, lb65⟩ := sh_f hZ kv0 (j := 2) (k := 14) (m := 24) rfl
      have h := h b65 eb65
      refine j_getr E 12 2 rfl rfl (by decide) (by decide) (iw iT_12) rfl rfl (tw W_742) kv0 eb65 dX12_again_56 ?_
      refine j_iload_n E dX12_again_59 2 rfl ?_
      refine j_aload_n E dX12_again_60 0 rfl ?_
      refine j_callV E [] [.int v2, .ref b65] (c_X12_take (gL G) (gD G) (gY G) v0 Z I L _ hZ kv0 h) (gwV W_945 W_946 W_947 W_695 W_944) rfl ⟨rfl, fy_X12_take⟩ ⟨by decide, by decide⟩ (c := 12) rfl (by decide) kv0 rfl rfl (Nat.le_of_ble_eq_true rfl) ⟨Nat.zero_le _, Nat.zero_le _⟩ dX12_again_61 (fun v66 Z67 I68 L69 q70 => ?_)
      obtain ⟨rfl, r72, rfl, h⟩ := q70
      show jJ G 6 64 [(0, .ref v0), (1, .int v1), (2, .int v2)] [.int r72, .int v2, .ref b65] Z I68 L69 0 0
      obtain ⟨o73, h⟩ := h
      refine j_iast E kb65 (by rw [lb65]; exact o73) dX12_again_64 ?_
      refine j_nmI (fun I74 eI74 => ?_)
      have h := h I74 eI74
      refine j_aload_n E dX12_again_65 0 rfl ?_
      obtain ⟨b75, eb75, kb75, lb75⟩ := sh_f hZ kv0 (j := 3) (k := 14) (m := 24) rfl
      have h := h b75 eb75
      refine j_getr E 12 3 rfl rfl (by decide) (by decide) (iw iT_12) rfl rfl (tw W_743) kv0 eb75 dX12_again_66 ?_
      refine j_iload_n E dX12_again_69 2 rfl ?_
      refine j_aload_n E dX12_again_70 0 rfl ?_
      refine j_callV E [] [.int v2, .ref b75] (c_X12_take (gL G) (gD G) (gY G) v0 Z I74 L69 _ hZ kv0 h) (gwV W_945 W_946 W_947 W_695 W_944) rfl ⟨rfl, fy_X12_take⟩ ⟨by decide, by decide⟩ (c := 12) rfl (by decide) kv0 rfl rfl (Nat.le_of_ble_eq_true rfl) ⟨Nat.zero_le _, Nat.zero_le _⟩ dX12_again_71 (fun v76 Z77 I78 L79 q80 => ?_)
      obtain ⟨rfl, r82, rfl, h⟩ := q80
      show jJ G 6 74 [(0, .ref v0), (1, .int v1), (2, .int v2)] [.int r82, .int v2, .ref b75] Z I78 L79 0 0
      obtain ⟨o83, h⟩ := h
      refine j_iast E kb75 (by rw [lb75]; exact o83) dX12_again_74 ?_
      refine j_nmI (fun I84 eI84 => ?_)
      have h := h I84 eI84
      obtain ⟨x85, ex85⟩ : ∃ y : Int32, y = v2 + 1 := ⟨_, rfl⟩
      have h := h x85 ex85
      refine j_iinc E x85 [(2, .int x85), (0, .ref v0), (1, .int v1)] dX12_again_75 2 rfl (by rw [ex85]; rfl) (by decide) rfl ?_
      refine j_goto E 49 dX12_again_78 (by decide) ?_
      refine j_sub [1, 2, 0] rfl ?_
      exact hK49 v0 v1 x85 I84 L79 kv0 h
set_option maxRecDepth 100000 in
def f_X12_again (v0 : Nat) (v1 : Int32) (Z : jZ) (I : jI) (L : jL) (Q : Int32 → jI → jL → Prop) : Prop := (∀ I86 : jI, I86 = jpI I v0 22 (0 : Int32) → (f_X12_in v1 (0 : Int32) (1 : Int32) Z I86 L (fun r93 I89 L90 => ((r93 = 0 → Q (0 : Int32) I89 L90) ∧ (¬ (r93 = 0) → (∀ b95 : Nat, jr Z v0 63 = some b95 → (vp_in v1 2 ∧ (((I89 b95 v1.toNatClampNeg) = 0 → Q (0 : Int32) I89 L90) ∧ (¬ ((I89 b95 v1.toNatClampNeg) = 0) → (∀ b98 : Nat, jr Z v0 64 = some b98 → (vp_in v1 2 ∧ (((I89 b98 v1.toNatClampNeg) = (I89 v0 7) → (∀ I101 : jI, I101 = jpI I89 v0 66 ((266 : Int32) * v1) → (∃ m49 : Nat, f_X12_again_L49  Z Q m49 v0 v1 (0 : Int32) I101 L90))) ∧ (¬ ((I89 b98 v1.toNatClampNeg) = (I89 v0 7)) → Q (0 : Int32) I89 L90)))))))))))))
set_option maxHeartbeats 4000000 in
set_option maxRecDepth 100000 in
theorem c_X12_again (l : Launch) (D : va_G) (cy : jC) (v0 : Nat) (v1 : Int32) (Z : jZ) (I : jI) (L : jL) (Q : Int32 → jI → jL → Prop) (hZ : SH Z) (kv0 : jk Z v0 12) (h : f_X12_again v0 v1 Z I L Q) : jCt l yX12_again w_X12_again { frames := 1, cells := 0, slots := 0, locals := 22 } D cy [.ref v0, .int v1] Z I L (rtZ Z Q) := by
  refine jCt_of (cc := cX12_again) (maxL := 6) (ret := (some .boolean)) (by decide +kernel) rfl (Nat.le_of_ble_eq_true rfl) ?_
  intro G eD eY eL E
  subst eD; subst eY; subst eL
  have E : jE G cX12_again RX12 w_X12_again 6 (some .boolean) { frames := 1, cells := 0, slots := 0, locals := 22 } (rtZ Z Q) := E
  show jJ G 6 0 [(0, .ref v0), (1, .int v1)] [] Z I L 0 0
  refine j_aload_n E dX12_again_0 0 rfl ?_
  refine j_iconst E (v := 0) dX12_again_1 (by decide) ?_
  refine j_puti E 12 22 rfl rfl (by decide) (by decide) (iw iT_12) tyX12_ok nmX12 rfl rfl (tw W_690) rfl rfl rfl kv0 dX12_again_2 ?_
  refine j_nmI (fun I86 eI86 => ?_)
  have h := h I86 eI86
  refine j_iload_n E dX12_again_5 1 rfl ?_
  refine j_iconst E (v := 0) dX12_again_6 (by decide) ?_
  refine j_iconst E (v := 1) dX12_again_7 (by decide) ?_
  refine j_callS E [.int v1, .int (0 : Int32), .int (1 : Int32)] [] (c_X12_in (gL G) (gD G) (gY G) v1 (0 : Int32) (1 : Int32) Z I86 L _ hZ  h) (gwS W_696 W_697 W_695 W_694) rfl fy_X12_in ⟨by decide, by decide⟩ rfl rfl (Nat.le_of_ble_eq_true rfl) ⟨Nat.zero_le _, Nat.zero_le _⟩ dX12_again_8 (fun v87 Z88 I89 L90 q91 => ?_)
  obtain ⟨rfl, r93, rfl, zr93, h⟩ := q91
  show jJ G 6 11 [(0, .ref v0), (1, .int v1)] [.int r93] Z I89 L90 0 0
  refine j_if_eq E 36 dX12_again_11 (by decide) (fun c94 => ?_) (fun c94 => ?_)
  · have h := h.1 c94
    refine j_iconst E (v := 0) dX12_again_36 (by decide) ?_
    exact j_zreturn E (Or.inl rfl) ⟨rfl, _, rfl, (Or.inl rfl), h⟩ (Nat.zero_le _) (Nat.zero_le _) dX12_again_37
  · have h := h.2 c94
    refine j_aload_n E dX12_again_14 0 rfl ?_
    obtain ⟨b95, eb95, kb95, lb95⟩ := sh_f hZ kv0 (j := 63) (k := 16) (m := 2) rfl
    have h := h b95 eb95
    refine j_getr E 12 63 rfl rfl (by decide) (by decide) (iw iT_12) rfl rfl (tw W_941) kv0 eb95 dX12_again_15 ?_
    refine j_iload_n E dX12_again_18 1 rfl ?_
    obtain ⟨o96, h⟩ := h
    refine j_zald E kb95 (by rw [lb95]; exact o96) dX12_again_19 ?_
    refine j_if_eq E 36 dX12_again_20 (by decide) (fun c97 => ?_) (fun c97 => ?_)
    · have h := h.1 c97
      refine j_iconst E (v := 0) dX12_again_36 (by decide) ?_
      exact j_zreturn E (Or.inl rfl) ⟨rfl, _, rfl, (Or.inl rfl), h⟩ (Nat.zero_le _) (Nat.zero_le _) dX12_again_37
    · have h := h.2 c97
      refine j_aload_n E dX12_again_23 0 rfl ?_
      obtain ⟨b98, eb98, kb98, lb98⟩ := sh_f hZ kv0 (j := 64) (k := 14) (m := 2) rfl
      have h := h b98 eb98
      refine j_getr E 12 64 rfl rfl (by decide) (by decide) (iw iT_12) rfl rfl (tw W_942) kv0 eb98 dX12_again_24 ?_
      refine j_iload_n E dX12_again_27 1 rfl ?_
      obtain ⟨o99, h⟩ := h
      refine j_iald E kb98 (by rw [lb98]; exact o99) dX12_again_28 ?_
      refine j_aload_n E dX12_again_29 0 rfl ?_
      refine j_geti E 12 7 rfl rfl (by decide) (by decide) (iw iT_12) rfl rfl (tw W_739) kv0 dX12_again_30 ?_
      refine j_icmp_eq E 38 dX12_again_33 (by decide) (fun c100 => ?_) (fun c100 => ?_)
      · have h := h.1 c100
        refine j_aload_n E dX12_again_38 0 rfl ?_
        refine j_sipush E (v := 266) dX12_again_39 (by decide) ?_
        refine j_iload_n E dX12_again_42 1 rfl ?_
        refine j_imul E dX12_again_43 ?_
        refine j_puti E 12 66 rfl rfl (by decide) (by decide) (iw iT_12) tyX12_ok nmX12 rfl rfl (tw W_936) rfl rfl rfl kv0 dX12_again_44 ?_
        refine j_nmI (fun I101 eI101 => ?_)
        have h := h I101 eI101
        refine j_iconst E (v := 0) dX12_again_47 (by decide) ?_
        refine j_istore_n E 2 [(2, .int (0 : Int32)), (0, .ref v0), (1, .int v1)] dX12_again_48 rfl (by decide) rfl ?_
        obtain ⟨n102, h⟩ := h
        refine j_sub [1, 2, 0] rfl ?_
        exact m_X12_again_L49 E hZ  n102 v0 v1 (0 : Int32) I101 L90 kv0 h
      · have h := h.2 c100
        refine j_iconst E (v := 0) dX12_again_36 (by decide) ?_
        exact j_zreturn E (Or.inl rfl) ⟨rfl, _, rfl, (Or.inl rfl), h⟩ (Nat.zero_le _) (Nat.zero_le _) dX12_again_37
set_option maxRecDepth 100000 in
def f_X12_count_b94  (Z : jZ) (Q : Int32 → jI → jL → Prop) (s0 : Int32) (s1 : Int32) (I : jI) (L : jL) : Prop := Q (s0 + s1) I L
set_option maxHeartbeats 4000000 in
set_option maxRecDepth 100000 in
theorem m_X12_count_b94 {G : jG} {Z : jZ} {Q : Int32 → jI → jL → Prop} (E : jE G cX12_count RX12 w_X12_count 5 (some .int) { frames := 0, cells := 0, slots := 0, locals := 0 } (rtI Z Q)) (hZ : SH Z)  (s0 : Int32) (s1 : Int32) (I : jI) (L : jL)  (h : f_X12_count_b94  Z Q s0 s1 I L) : jJ G 5 94 [] [.int s1, .int s0] Z I L 0 0 := by
  refine j_iadd E dX12_count_94 ?_
  exact j_ireturn E ⟨rfl, _, rfl, h⟩ (Nat.zero_le _) (Nat.zero_le _) dX12_count_95
set_option maxRecDepth 100000 in
def f_X12_count_b80  (Z : jZ) (Q : Int32 → jI → jL → Prop) (v0 : Nat) (s0 : Int32) (I : jI) (L : jL) : Prop := (∀ b1 : Nat, jr Z v0 30 = some b1 → (((I b1 (1 : Int32).toNatClampNeg) ≤ 0 → f_X12_count_b94  Z Q s0 (0 : Int32) I L) ∧ (¬ ((I b1 (1 : Int32).toNatClampNeg) ≤ 0) → f_X12_count_b94  Z Q s0 (2 : Int32) I L)))
set_option maxHeartbeats 4000000 in
set_option maxRecDepth 100000 in
theorem m_X12_count_b80 {G : jG} {Z : jZ} {Q : Int32 → jI → jL → Prop} (E : jE G cX12_count RX12 w_X12_count 5 (some .int) { frames := 0, cells := 0, slots := 0, locals := 0 } (rtI Z Q)) (hZ : SH Z)  (v0 : Nat) (s0 : Int32) (I : jI) (L : jL) (kv0 : jk Z v0 12) (h : f_X12_count_b80  Z Q v0 s0 I L) : jJ G 5 80 [(0, .ref v0)] [.int s0] Z I L 0 0 := by
  refine j_aload_n E dX12_count_80 0 rfl ?_
  obtain ⟨b1, eb1, kb1, lb1⟩ := sh_f hZ kv0 (j := 30) (k := 14) (m := 2) rfl
  have h := h b1 eb1
  refine j_getr E 12 30 rfl rfl (by decide) (by decide) (iw iT_12) rfl rfl (tw W_781) kv0 eb1 dX12_count_81 ?_
  refine j_iconst E (v := 1) dX12_count_84 (by decide) ?_
  refine j_iald E kb1 (by rw [lb1]; exact vp_in_lit (by decide)) dX12_count_85 ?_
  refine j_if_le E 93 dX12_count_86 (by decide) (fun c2 => ?_) (fun c2 => ?_)
  · have h := h.1 c2
    refine j_iconst E (v := 0) dX12_count_93 (by decide) ?_
    refine j_sub [] rfl ?_
    exact m_X12_count_b94 E hZ  s0 (0 : Int32) I L  h
  · have h := h.2 c2
    refine j_iconst E (v := 2) dX12_count_89 (by decide) ?_
    refine j_goto E 94 dX12_count_90 (by decide) ?_
    refine j_sub [] rfl ?_
    exact m_X12_count_b94 E hZ  s0 (2 : Int32) I L  h
set_option maxRecDepth 100000 in
def f_X12_count_L103  (Z : jZ) (Q : Int32 → jI → jL → Prop) : Nat → Nat → Int32 → Int32 → jI → jL → Prop
  | 0 => fun _ _ _ _ _ => False
  | n + 1 => fun v0 v2 v3 I L => (((8 : Int32) ≤ v3 → Q v2 I L) ∧ (¬ ((8 : Int32) ≤ v3) → (∀ b4 : Nat, jr Z v0 17 = some b4 → (vp_in v3 8 ∧ (∀ x6 : Int32, x6 = (v2 + (I b4 v3.toNatClampNeg)) → (∀ x7 : Int32, x7 = v3 + 1 → (f_X12_count_L103 Z Q n) v0 x6 x7 I L))))))
set_option maxHeartbeats 4000000 in
set_option maxRecDepth 100000 in
theorem m_X12_count_L103 {G : jG} {Z : jZ} {Q : Int32 → jI → jL → Prop} (E : jE G cX12_count RX12 w_X12_count 5 (some .int) { frames := 0, cells := 0, slots := 0, locals := 0 } (rtI Z Q)) (hZ : SH Z)  : ∀ (n : Nat) (v0 : Nat) (v2 : Int32) (v3 : Int32) (I : jI) (L : jL), jk Z v0 12 → f_X12_count_L103  Z Q n v0 v2 v3 I L → jJ G 5 103 [(0, .ref v0), (2, .int v2), (3, .int v3)] [] Z I L 0 0 := by
  intro n
  induction n with
  | zero => intro v0 v2 v3 I L _ h; exact h.elim
  | succ n ih =>
    intro v0 v2 v3 I L kv0 h
    have h : (((8 : Int32) ≤ v3 → Q v2 I L) ∧ (¬ ((8 : Int32) ≤ v3) → (∀ b4 : Nat, jr Z v0 17 = some b4 → (vp_in v3 8 ∧ (∀ x6 : Int32, x6 = (v2 + (I b4 v3.toNatClampNeg)) → (∀ x7 : Int32, x7 = v3 + 1 → (f_X12_count_L103 Z Q n) v0 x6 x7 I L)))))) := h
    obtain ⟨K103, eK103⟩ : ∃ K : Nat → Int32 → Int32 → jI → jL → Prop, K = f_X12_count_L103  Z Q n := ⟨_, rfl⟩
    have hK103 := ih
    clear eK103 K103
    generalize f_X12_count_L103  Z Q n = K103 at hK103 h
    refine j_iload_n E dX12_count_103 2 rfl ?_
    refine j_bipush E (v := 8) dX12_count_104 (by decide) ?_
    refine j_icmp_ge E 124 dX12_count_106 (by decide) (fun c3 => ?_) (fun c3 => ?_)
    · have h := h.1 c3
      refine j_iload_n E dX12_count_124 1 rfl ?_
      exact j_ireturn E ⟨rfl, _, rfl, h⟩ (Nat.zero_le _) (Nat.zero_le _) dX12_count_125
    · have h := h.2 c3
      refine j_iload_n E dX12_count_109 1 rfl ?_
      refine j_aload_n E dX12_count_110 0 rfl ?_
      obtain ⟨b4, eb4, kb4, lb4⟩ := sh_f hZ kv0 (j := 17) (k := 14) (m := 8) rfl
      have h := h b4 eb4
      refine j_getr E 12 17 rfl rfl (by decide) (by decide) (iw iT_12) rfl rfl (tw W_737) kv0 eb4 dX12_count_111 ?_
      refine j_iload_n E dX12_count_114 2 rfl ?_
      obtain ⟨o5, h⟩ := h
      refine j_iald E kb4 (by rw [lb4]; exact o5) dX12_count_115 ?_
      refine j_iadd E dX12_count_116 ?_
      refine j_topi (fun x6 ex6 => ?_)
      have h := h x6 ex6
      refine j_istore_n E 2 [(2, .int x6), (0, .ref v0), (3, .int v3)] dX12_count_117 rfl (by decide) rfl ?_
      obtain ⟨x7, ex7⟩ : ∃ y : Int32, y = v3 + 1 := ⟨_, rfl⟩
      have h := h x7 ex7
      refine j_iinc E x7 [(3, .int x7), (2, .int x6), (0, .ref v0)] dX12_count_118 2 rfl (by rw [ex7]; rfl) (by decide) rfl ?_
      refine j_goto E 103 dX12_count_121 (by decide) ?_
      refine j_sub [2, 1, 0] rfl ?_
      exact hK103 v0 x6 x7 I L kv0 h
set_option maxRecDepth 100000 in
def f_X12_count_b164 (K128 : Nat → Int32 → Int32 → jI → jL → Prop) (K137 : Nat → Int32 → Int32 → Int32 → jI → jL → Prop) (Z : jZ) (Q : Int32 → jI → jL → Prop) (v0 : Nat) (v3 : Int32) (v4 : Int32) (s0 : Int32) (s1 : Int32) (I : jI) (L : jL) : Prop := (∀ x8 : Int32, x8 = (s0 + s1) → (∀ x9 : Int32, x9 = v4 + 1 → K137 v0 x8 v3 x9 I L))
set_option maxHeartbeats 4000000 in
set_option maxRecDepth 100000 in
theorem m_X12_count_b164 {G : jG} {Z : jZ} {Q : Int32 → jI → jL → Prop} (E : jE G cX12_count RX12 w_X12_count 5 (some .int) { frames := 0, cells := 0, slots := 0, locals := 0 } (rtI Z Q)) (hZ : SH Z) (K128 : Nat → Int32 → Int32 → jI → jL → Prop) (hK128 : ∀ (v0 : Nat) (v2 : Int32) (v3 : Int32) (I : jI) (L : jL), jk Z v0 12 → K128 v0 v2 v3 I L → jJ G 5 128 [(0, .ref v0), (2, .int v2), (3, .int v3)] [] Z I L 0 0) (K137 : Nat → Int32 → Int32 → Int32 → jI → jL → Prop) (hK137 : ∀ (v0 : Nat) (v2 : Int32) (v3 : Int32) (v4 : Int32) (I : jI) (L : jL), jk Z v0 12 → K137 v0 v2 v3 v4 I L → jJ G 5 137 [(0, .ref v0), (2, .int v2), (3, .int v3), (4, .int v4)] [] Z I L 0 0) (v0 : Nat) (v3 : Int32) (v4 : Int32) (s0 : Int32) (s1 : Int32) (I : jI) (L : jL) (kv0 : jk Z v0 12) (h : f_X12_count_b164 K128 K137 Z Q v0 v3 v4 s0 s1 I L) : jJ G 5 164 [(0, .ref v0), (3, .int v3), (4, .int v4)] [.int s1, .int s0] Z I L 0 0 := by
  refine j_iadd E dX12_count_164 ?_
  refine j_topi (fun x8 ex8 => ?_)
  have h := h x8 ex8
  refine j_istore_n E 2 [(2, .int x8), (0, .ref v0), (3, .int v3), (4, .int v4)] dX12_count_165 rfl (by decide) rfl ?_
  obtain ⟨x9, ex9⟩ : ∃ y : Int32, y = v4 + 1 := ⟨_, rfl⟩
  have h := h x9 ex9
  refine j_iinc E x9 [(4, .int x9), (2, .int x8), (0, .ref v0), (3, .int v3)] dX12_count_166 3 rfl (by rw [ex9]; rfl) (by decide) rfl ?_
  refine j_goto E 137 dX12_count_169 (by decide) ?_
  refine j_sub [2, 1, 3, 0] rfl ?_
  exact hK137 v0 x8 v3 x9 I L kv0 h
set_option maxRecDepth 100000 in
def f_X12_count_L137 (K128 : Nat → Int32 → Int32 → jI → jL → Prop) (Z : jZ) (Q : Int32 → jI → jL → Prop) : Nat → Nat → Int32 → Int32 → Int32 → jI → jL → Prop
  | 0 => fun _ _ _ _ _ _ => False
  | n + 1 => fun v0 v2 v3 v4 I L => ((v3 ≤ v4 → (∀ x11 : Int32, x11 = v3 + 1 → K128 v0 v2 x11 I L)) ∧ (¬ (v3 ≤ v4) → (∀ b12 : Nat, jr Z v0 6 = some b12 → (vp_in (((8 : Int32) * v3) + v4) 64 ∧ (((I b12 (((8 : Int32) * v3) + v4).toNatClampNeg) = 0 → f_X12_count_b164 K128 (f_X12_count_L137 K128 Z Q n) Z Q v0 v3 v4 v2 (0 : Int32) I L) ∧ (¬ ((I b12 (((8 : Int32) * v3) + v4).toNatClampNeg) = 0) → f_X12_count_b164 K128 (f_X12_count_L137 K128 Z Q n) Z Q v0 v3 v4 v2 (1 : Int32) I L))))))
set_option maxHeartbeats 4000000 in
set_option maxRecDepth 100000 in
theorem m_X12_count_L137 {G : jG} {Z : jZ} {Q : Int32 → jI → jL → Prop} (E : jE G cX12_count RX12 w_X12_count 5 (some .int) { frames := 0, cells := 0, slots := 0, locals := 0 } (rtI Z Q)) (hZ : SH Z) (K128 : Nat → Int32 → Int32 → jI → jL → Prop) (hK128 : ∀ (v0 : Nat) (v2 : Int32) (v3 : Int32) (I : jI) (L : jL), jk Z v0 12 → K128 v0 v2 v3 I L → jJ G 5 128 [(0, .ref v0), (2, .int v2), (3, .int v3)] [] Z I L 0 0) : ∀ (n : Nat) (v0 : Nat) (v2 : Int32) (v3 : Int32) (v4 : Int32) (I : jI) (L : jL), jk Z v0 12 → f_X12_count_L137 K128 Z Q n v0 v2 v3 v4 I L → jJ G 5 137 [(0, .ref v0), (2, .int v2), (3, .int v3), (4, .int v4)] [] Z I L 0 0 := by
  intro n
  induction n with
  | zero => intro v0 v2 v3 v4 I L _ h; exact h.elim
  | succ n ih =>
    intro v0 v2 v3 v4 I L kv0 h
    have h : ((v3 ≤ v4 → (∀ x11 : Int32, x11 = v3 + 1 → K128 v0 v2 x11 I L)) ∧ (¬ (v3 ≤ v4) → (∀ b12 : Nat, jr Z v0 6 = some b12 → (vp_in (((8 : Int32) * v3) + v4) 64 ∧ (((I b12 (((8 : Int32) * v3) + v4).toNatClampNeg) = 0 → f_X12_count_b164 K128 (f_X12_count_L137 K128 Z Q n) Z Q v0 v3 v4 v2 (0 : Int32) I L) ∧ (¬ ((I b12 (((8 : Int32) * v3) + v4).toNatClampNeg) = 0) → f_X12_count_b164 K128 (f_X12_count_L137 K128 Z Q n) Z Q v0 v3 v4 v2 (1 : Int32) I L)))))) := h
    obtain ⟨K137, eK137⟩ : ∃ K : Nat → Int32 → Int32 → Int32 → jI → jL → Prop, K = f_X12_count_L137 K128 Z Q n := ⟨_, rfl⟩
    have hK137 := ih
    clear eK137 K137
    generalize f_X12_count_L137 K128 Z Q n = K137 at hK137 h
    refine j_iload E dX12_count_137 3 rfl ?_
    refine j_iload_n E dX12_count_139 2 rfl ?_
    refine j_icmp_ge E 172 dX12_count_140 (by decide) (fun c10 => ?_) (fun c10 => ?_)
    · have h := h.1 c10
      obtain ⟨x11, ex11⟩ : ∃ y : Int32, y = v3 + 1 := ⟨_, rfl⟩
      have h := h x11 ex11
      refine j_iinc E x11 [(3, .int x11), (0, .ref v0), (2, .int v2), (4, .int v4)] dX12_count_172 2 rfl (by rw [ex11]; rfl) (by decide) rfl ?_
      refine j_goto E 128 dX12_count_175 (by decide) ?_
      refine j_sub [1, 2, 0] rfl ?_
      exact hK128 v0 v2 x11 I L kv0 h
    · have h := h.2 c10
      refine j_iload_n E dX12_count_143 1 rfl ?_
      refine j_aload_n E dX12_count_144 0 rfl ?_
      obtain ⟨b12, eb12, kb12, lb12⟩ := sh_f hZ kv0 (j := 6) (k := 16) (m := 64) rfl
      have h := h b12 eb12
      refine j_getr E 12 6 rfl rfl (by decide) (by decide) (iw iT_12) rfl rfl (tw W_755) kv0 eb12 dX12_count_145 ?_
      refine j_bipush E (v := 8) dX12_count_148 (by decide) ?_
      refine j_iload_n E dX12_count_150 2 rfl ?_
      refine j_imul E dX12_count_151 ?_
      refine j_iload E dX12_count_152 3 rfl ?_
      refine j_iadd E dX12_count_154 ?_
      obtain ⟨o13, h⟩ := h
      refine j_zald E kb12 (by rw [lb12]; exact o13) dX12_count_155 ?_
      refine j_if_eq E 163 dX12_count_156 (by decide) (fun c14 => ?_) (fun c14 => ?_)
      · have h := h.1 c14
        refine j_iconst E (v := 0) dX12_count_163 (by decide) ?_
        refine j_sub [0, 2, 3] rfl ?_
        exact m_X12_count_b164 E hZ K128 hK128 K137 hK137 v0 v3 v4 v2 (0 : Int32) I L kv0 h
      · have h := h.2 c14
        refine j_iconst E (v := 1) dX12_count_159 (by decide) ?_
        refine j_goto E 164 dX12_count_160 (by decide) ?_
        refine j_sub [0, 2, 3] rfl ?_
        exact m_X12_count_b164 E hZ K128 hK128 K137 hK137 v0 v3 v4 v2 (1 : Int32) I L kv0 h
set_option maxRecDepth 100000 in
def f_X12_count_L128  (Z : jZ) (Q : Int32 → jI → jL → Prop) : Nat → Nat → Int32 → Int32 → jI → jL → Prop
  | 0 => fun _ _ _ _ _ => False
  | n + 1 => fun v0 v2 v3 I L => (((8 : Int32) ≤ v3 → Q v2 I L) ∧ (¬ ((8 : Int32) ≤ v3) → (∃ m137 : Nat, f_X12_count_L137 (f_X12_count_L128 Z Q n) Z Q m137 v0 v2 v3 (0 : Int32) I L)))
set_option maxHeartbeats 4000000 in
set_option maxRecDepth 100000 in
theorem m_X12_count_L128 {G : jG} {Z : jZ} {Q : Int32 → jI → jL → Prop} (E : jE G cX12_count RX12 w_X12_count 5 (some .int) { frames := 0, cells := 0, slots := 0, locals := 0 } (rtI Z Q)) (hZ : SH Z)  : ∀ (n : Nat) (v0 : Nat) (v2 : Int32) (v3 : Int32) (I : jI) (L : jL), jk Z v0 12 → f_X12_count_L128  Z Q n v0 v2 v3 I L → jJ G 5 128 [(0, .ref v0), (2, .int v2), (3, .int v3)] [] Z I L 0 0 := by
  intro n
  induction n with
  | zero => intro v0 v2 v3 I L _ h; exact h.elim
  | succ n ih =>
    intro v0 v2 v3 I L kv0 h
    have h : (((8 : Int32) ≤ v3 → Q v2 I L) ∧ (¬ ((8 : Int32) ≤ v3) → (∃ m137 : Nat, f_X12_count_L137 (f_X12_count_L128 Z Q n) Z Q m137 v0 v2 v3 (0 : Int32) I L))) := h
    obtain ⟨K128, eK128⟩ : ∃ K : Nat → Int32 → Int32 → jI → jL → Prop, K = f_X12_count_L128  Z Q n := ⟨_, rfl⟩
    have hK128 := ih
    clear eK128 K128
    generalize f_X12_count_L128  Z Q n = K128 at hK128 h
    refine j_iload_n E dX12_count_128 2 rfl ?_
    refine j_bipush E (v := 8) dX12_count_129 (by decide) ?_
    refine j_icmp_ge E 178 dX12_count_131 (by decide) (fun c15 => ?_) (fun c15 => ?_)
    · have h := h.1 c15
      refine j_iload_n E dX12_count_178 1 rfl ?_
      exact j_ireturn E ⟨rfl, _, rfl, h⟩ (Nat.zero_le _) (Nat.zero_le _) dX12_count_179
    · have h := h.2 c15
      refine j_iconst E (v := 0) dX12_count_134 (by decide) ?_
      refine j_istore E 4 [(4, .int (0 : Int32)), (0, .ref v0), (2, .int v2), (3, .int v3)] dX12_count_135 (by decide) rfl ?_
      obtain ⟨n16, h⟩ := h
      refine j_sub [1, 2, 3, 0] rfl ?_
      exact m_X12_count_L137 E hZ K128 hK128 n16 v0 v2 v3 (0 : Int32) I L kv0 h
set_option maxRecDepth 100000 in
def f_X12_count (v0 : Nat) (v1 : Int32) (Z : jZ) (I : jI) (L : jL) (Q : Int32 → jI → jL → Prop) : Prop := (∀ I17 : jI, I17 = jpI I v0 22 (0 : Int32) → ((v1 = 0 → Q (I17 v0 0) I17 L) ∧ (¬ v1 = 0 → ((v1 = 1 → Q (I17 v0 8) I17 L) ∧ (¬ v1 = 1 → ((v1 = 2 → (∀ b21 : Nat, jr Z v0 30 = some b21 → (((I17 b21 (0 : Int32).toNatClampNeg) ≤ 0 → f_X12_count_b80  Z Q v0 (0 : Int32) I17 L) ∧ (¬ ((I17 b21 (0 : Int32).toNatClampNeg) ≤ 0) → f_X12_count_b80  Z Q v0 (1 : Int32) I17 L)))) ∧ (¬ v1 = 2 → ((v1 = 3 → Q (I17 v0 52) I17 L) ∧ (¬ v1 = 3 → ((v1 = 4 → (∃ m103 : Nat, f_X12_count_L103  Z Q m103 v0 (0 : Int32) (0 : Int32) I17 L)) ∧ (¬ v1 = 4 → ((v1 = 5 → (∃ m128 : Nat, f_X12_count_L128  Z Q m128 v0 (0 : Int32) (0 : Int32) I17 L)) ∧ (¬ v1 = 5 → ((v1 = 6 → Q (I17 v0 21) I17 L) ∧ (¬ v1 = 6 → ((v1 = 7 → Q (I17 v0 19) I17 L) ∧ (¬ v1 = 7 → Q (-1 : Int32) I17 L)))))))))))))))))
set_option maxHeartbeats 4000000 in
set_option maxRecDepth 100000 in
theorem c_X12_count (l : Launch) (D : va_G) (cy : jC) (v0 : Nat) (v1 : Int32) (Z : jZ) (I : jI) (L : jL) (Q : Int32 → jI → jL → Prop) (hZ : SH Z) (kv0 : jk Z v0 12) (h : f_X12_count v0 v1 Z I L Q) : jCt l yX12_count w_X12_count { frames := 0, cells := 0, slots := 0, locals := 0 } D cy [.ref v0, .int v1] Z I L (rtI Z Q) := by
  refine jCt_of (cc := cX12_count) (maxL := 5) (ret := (some .int)) (by decide +kernel) rfl (Nat.le_of_ble_eq_true rfl) ?_
  intro G eD eY eL E
  subst eD; subst eY; subst eL
  have E : jE G cX12_count RX12 w_X12_count 5 (some .int) { frames := 0, cells := 0, slots := 0, locals := 0 } (rtI Z Q) := E
  show jJ G 5 0 [(0, .ref v0), (1, .int v1)] [] Z I L 0 0
  refine j_aload_n E dX12_count_0 0 rfl ?_
  refine j_iconst E (v := 0) dX12_count_1 (by decide) ?_
  refine j_puti E 12 22 rfl rfl (by decide) (by decide) (iw iT_12) tyX12_ok nmX12 rfl rfl (tw W_690) rfl rfl rfl kv0 dX12_count_2 ?_
  refine j_nmI (fun I17 eI17 => ?_)
  have h := h I17 eI17
  refine j_iconst E (v := 0) dX12_count_5 (by decide) ?_
  refine j_istore_n E 2 [(2, .int (0 : Int32)), (0, .ref v0), (1, .int v1)] dX12_count_6 rfl (by decide) rfl ?_
  refine j_iload_n E dX12_count_7 2 rfl ?_
  by_cases c18 : v1 = 0
  · have h := h.1 c18
    refine j_tableIn E (48) 56 dX12_count_8 (by rw [c18]; decide) (by rw [c18]; decide) (by rw [c18]; rfl) (by decide) ?_
    refine j_aload_n E dX12_count_56 1 rfl ?_
    refine j_geti E 12 0 rfl rfl (by decide) (by decide) (iw iT_12) rfl rfl (tw W_693) kv0 dX12_count_57 ?_
    exact j_ireturn E ⟨rfl, _, rfl, h⟩ (Nat.zero_le _) (Nat.zero_le _) dX12_count_60
  · have h := h.2 c18
    by_cases c19 : v1 = 1
    · have h := h.1 c19
      refine j_tableIn E (53) 61 dX12_count_8 (by rw [c19]; decide) (by rw [c19]; decide) (by rw [c19]; rfl) (by decide) ?_
      refine j_aload_n E dX12_count_61 1 rfl ?_
      refine j_geti E 12 8 rfl rfl (by decide) (by decide) (iw iT_12) rfl rfl (tw W_698) kv0 dX12_count_62 ?_
      exact j_ireturn E ⟨rfl, _, rfl, h⟩ (Nat.zero_le _) (Nat.zero_le _) dX12_count_65
    · have h := h.2 c19
      by_cases c20 : v1 = 2
      · have h := h.1 c20
        refine j_tableIn E (58) 66 dX12_count_8 (by rw [c20]; decide) (by rw [c20]; decide) (by rw [c20]; rfl) (by decide) ?_
        refine j_aload_n E dX12_count_66 1 rfl ?_
        obtain ⟨b21, eb21, kb21, lb21⟩ := sh_f hZ kv0 (j := 30) (k := 14) (m := 2) rfl
        have h := h b21 eb21
        refine j_getr E 12 30 rfl rfl (by decide) (by decide) (iw iT_12) rfl rfl (tw W_781) kv0 eb21 dX12_count_67 ?_
        refine j_iconst E (v := 0) dX12_count_70 (by decide) ?_
        refine j_iald E kb21 (by rw [lb21]; exact vp_in_lit (by decide)) dX12_count_71 ?_
        refine j_if_le E 79 dX12_count_72 (by decide) (fun c22 => ?_) (fun c22 => ?_)
        · have h := h.1 c22
          refine j_iconst E (v := 0) dX12_count_79 (by decide) ?_
          refine j_sub [1] rfl ?_
          exact m_X12_count_b80 E hZ  v0 (0 : Int32) I17 L kv0 h
        · have h := h.2 c22
          refine j_iconst E (v := 1) dX12_count_75 (by decide) ?_
          refine j_goto E 80 dX12_count_76 (by decide) ?_
          refine j_sub [1] rfl ?_
          exact m_X12_count_b80 E hZ  v0 (1 : Int32) I17 L kv0 h
      · have h := h.2 c20
        by_cases c23 : v1 = 3
        · have h := h.1 c23
          refine j_tableIn E (88) 96 dX12_count_8 (by rw [c23]; decide) (by rw [c23]; decide) (by rw [c23]; rfl) (by decide) ?_
          refine j_aload_n E dX12_count_96 1 rfl ?_
          refine j_geti E 12 52 rfl rfl (by decide) (by decide) (iw iT_12) rfl rfl (tw W_740) kv0 dX12_count_97 ?_
          exact j_ireturn E ⟨rfl, _, rfl, h⟩ (Nat.zero_le _) (Nat.zero_le _) dX12_count_100
        · have h := h.2 c23
          by_cases c24 : v1 = 4
          · have h := h.1 c24
            refine j_tableIn E (93) 101 dX12_count_8 (by rw [c24]; decide) (by rw [c24]; decide) (by rw [c24]; rfl) (by decide) ?_
            refine j_iconst E (v := 0) dX12_count_101 (by decide) ?_
            refine j_istore_n E 3 [(3, .int (0 : Int32)), (2, .int (0 : Int32)), (0, .ref v0), (1, .int v1)] dX12_count_102 rfl (by decide) rfl ?_
            obtain ⟨n25, h⟩ := h
            refine j_sub [2, 1, 0] rfl ?_
            exact m_X12_count_L103 E hZ  n25 v0 (0 : Int32) (0 : Int32) I17 L kv0 h
          · have h := h.2 c24
            by_cases c26 : v1 = 5
            · have h := h.1 c26
              refine j_tableIn E (118) 126 dX12_count_8 (by rw [c26]; decide) (by rw [c26]; decide) (by rw [c26]; rfl) (by decide) ?_
              refine j_iconst E (v := 0) dX12_count_126 (by decide) ?_
              refine j_istore_n E 3 [(3, .int (0 : Int32)), (2, .int (0 : Int32)), (0, .ref v0), (1, .int v1)] dX12_count_127 rfl (by decide) rfl ?_
              obtain ⟨n27, h⟩ := h
              refine j_sub [2, 1, 0] rfl ?_
              exact m_X12_count_L128 E hZ  n27 v0 (0 : Int32) (0 : Int32) I17 L kv0 h
            · have h := h.2 c26
              by_cases c28 : v1 = 6
              · have h := h.1 c28
                refine j_tableIn E (172) 180 dX12_count_8 (by rw [c28]; decide) (by rw [c28]; decide) (by rw [c28]; rfl) (by decide) ?_
                refine j_aload_n E dX12_count_180 1 rfl ?_
                refine j_geti E 12 21 rfl rfl (by decide) (by decide) (iw iT_12) rfl rfl (tw W_692) kv0 dX12_count_181 ?_
                exact j_ireturn E ⟨rfl, _, rfl, h⟩ (Nat.zero_le _) (Nat.zero_le _) dX12_count_184
              · have h := h.2 c28
                by_cases c29 : v1 = 7
                · have h := h.1 c29
                  refine j_tableIn E (177) 185 dX12_count_8 (by rw [c29]; decide) (by rw [c29]; decide) (by rw [c29]; rfl) (by decide) ?_
                  refine j_aload_n E dX12_count_185 1 rfl ?_
                  refine j_geti E 12 19 rfl rfl (by decide) (by decide) (iw iT_12) rfl rfl (tw W_700) kv0 dX12_count_186 ?_
                  exact j_ireturn E ⟨rfl, _, rfl, h⟩ (Nat.zero_le _) (Nat.zero_le _) dX12_count_189
                · have h := h.2 c29
                  refine j_tableOut E 190 dX12_count_8 (by have tc18 := lv_neT (k := 0) (a := 0) c18 rfl; have tc19 := lv_neT (k := 1) (a := 1) c19 rfl; have tc20 := lv_neT (k := 2) (a := 2) c20 rfl; have tc23 := lv_neT (k := 3) (a := 3) c23 rfl; have tc24 := lv_neT (k := 4) (a := 4) c24 rfl; have tc26 := lv_neT (k := 5) (a := 5) c26 rfl; have tc28 := lv_neT (k := 6) (a := 6) c28 rfl; have tc29 := lv_neT (k := 7) (a := 7) c29 rfl; omega) (by decide) ?_
                  refine j_iconst E (v := -1) dX12_count_190 (by decide) ?_
                  exact j_ireturn E ⟨rfl, _, rfl, h⟩ (Nat.zero_le _) (Nat.zero_le _) dX12_count_191
set_option maxRecDepth 100000 in
def f_X12_row (v0 : Nat) (v1 : Int32) (Z : jZ) (I : jI) (L : jL) (Q : Int64 → jI → jL → Prop) : Prop := (∀ I1 : jI, I1 = jpI I v0 22 (0 : Int32) → (f_X12_in v1 (0 : Int32) ((I1 v0 21) - (1 : Int32)) Z I1 L (fun r8 I4 L5 => ((r8 = 0 → (f_X12_lost v0 Z I4 L5 (fun r16 I12 L13 => Q (r16.toInt64) I12 L13))) ∧ (¬ (r8 = 0) → (∀ b17 : Nat, jr Z v0 20 = some b17 → (vp_in v1 40 ∧ Q (L5 b17 v1.toNatClampNeg) I4 L5)))))))
set_option maxHeartbeats 4000000 in
set_option maxRecDepth 100000 in
theorem c_X12_row (l : Launch) (D : va_G) (cy : jC) (v0 : Nat) (v1 : Int32) (Z : jZ) (I : jI) (L : jL) (Q : Int64 → jI → jL → Prop) (hZ : SH Z) (kv0 : jk Z v0 12) (h : f_X12_row v0 v1 Z I L Q) : jCt l yX12_row w_X12_row { frames := 1, cells := 0, slots := 0, locals := 22 } D cy [.ref v0, .int v1] Z I L (rtL Z Q) := by
  refine jCt_of (cc := cX12_row) (maxL := 2) (ret := (some .long)) (by decide +kernel) rfl (Nat.le_of_ble_eq_true rfl) ?_
  intro G eD eY eL E
  subst eD; subst eY; subst eL
  have E : jE G cX12_row RX12 w_X12_row 2 (some .long) { frames := 1, cells := 0, slots := 0, locals := 22 } (rtL Z Q) := E
  show jJ G 2 0 [(0, .ref v0), (1, .int v1)] [] Z I L 0 0
  refine j_aload_n E dX12_row_0 0 rfl ?_
  refine j_iconst E (v := 0) dX12_row_1 (by decide) ?_
  refine j_puti E 12 22 rfl rfl (by decide) (by decide) (iw iT_12) tyX12_ok nmX12 rfl rfl (tw W_690) rfl rfl rfl kv0 dX12_row_2 ?_
  refine j_nmI (fun I1 eI1 => ?_)
  have h := h I1 eI1
  refine j_iload_n E dX12_row_5 1 rfl ?_
  refine j_iconst E (v := 0) dX12_row_6 (by decide) ?_
  refine j_aload_n E dX12_row_7 0 rfl ?_
  refine j_geti E 12 21 rfl rfl (by decide) (by decide) (iw iT_12) rfl rfl (tw W_692) kv0 dX12_row_8 ?_
  refine j_iconst E (v := 1) dX12_row_11 (by decide) ?_
  refine j_isub E dX12_row_12 ?_
  refine j_callS E [.int v1, .int (0 : Int32), .int ((I1 v0 21) - (1 : Int32))] [] (c_X12_in (gL G) (gD G) (gY G) v1 (0 : Int32) ((I1 v0 21) - (1 : Int32)) Z I1 L _ hZ  h) (gwS W_696 W_697 W_695 W_694) rfl fy_X12_in ⟨by decide, by decide⟩ rfl rfl (Nat.le_of_ble_eq_true rfl) ⟨Nat.zero_le _, Nat.zero_le _⟩ dX12_row_13 (fun v2 Z3 I4 L5 q6 => ?_)
  obtain ⟨rfl, r8, rfl, zr8, h⟩ := q6
  show jJ G 2 16 [(0, .ref v0), (1, .int v1)] [.int r8] Z I4 L5 0 0
  refine j_if_eq E 28 dX12_row_16 (by decide) (fun c9 => ?_) (fun c9 => ?_)
  · have h := h.1 c9
    refine j_aload_n E dX12_row_28 0 rfl ?_
    refine j_callV E [] [] (c_X12_lost (gL G) (gD G) (gY G) v0 Z I4 L5 _ hZ kv0 h) (gwV W_786 W_787 W_788 W_695 W_785) rfl ⟨rfl, fy_X12_lost⟩ ⟨by decide, by decide⟩ (c := 12) rfl (by decide) kv0 rfl rfl (Nat.le_of_ble_eq_true rfl) ⟨Nat.zero_le _, Nat.zero_le _⟩ dX12_row_29 (fun v10 Z11 I12 L13 q14 => ?_)
    obtain ⟨rfl, r16, rfl, h⟩ := q14
    show jJ G 2 32 [(0, .ref v0), (1, .int v1)] [.int r16] Z I12 L13 0 0
    refine j_i2l E dX12_row_32 ?_
    exact j_lreturn E ⟨rfl, _, rfl, h⟩ (Nat.zero_le _) (Nat.zero_le _) dX12_row_33
  · have h := h.2 c9
    refine j_aload_n E dX12_row_19 0 rfl ?_
    obtain ⟨b17, eb17, kb17, lb17⟩ := sh_f hZ kv0 (j := 20) (k := 15) (m := 40) rfl
    have h := h b17 eb17
    refine j_getr E 12 20 rfl rfl (by decide) (by decide) (iw iT_12) rfl rfl (tw W_691) kv0 eb17 dX12_row_20 ?_
    refine j_iload_n E dX12_row_23 1 rfl ?_
    obtain ⟨o18, h⟩ := h
    refine j_lald E kb17 (by rw [lb17]; exact o18) dX12_row_24 ?_
    refine j_goto E 33 dX12_row_25 (by decide) ?_
    exact j_lreturn E ⟨rfl, _, rfl, h⟩ (Nat.zero_le _) (Nat.zero_le _) dX12_row_33
set_option maxRecDepth 100000 in
def f_L_step (v0 : Nat) (v1 : Int32) (v2 : Int32) (v3 : Nat) (Z : jZ) (I : jI) (L : jL) (Q : Int32 → jI → jL → Prop) : Prop := (f_X11_step v0 v1 v2 Z I L (fun r2 I3 L4 => (vp_in (0 : Int32) (jlen Z v3) ∧ (∀ L8 : jL, L8 = jpL L4 v3 (0 : Int32).toNatClampNeg (r2.toInt64) → Q (0 : Int32) I3 L8))) (fun I5 L6 => Q (1 : Int32) I5 L6))
set_option maxHeartbeats 4000000 in
set_option maxRecDepth 100000 in
theorem c_L_step (l : Launch) (hl0 : l.stackTraces = false) (D : va_G) (cy : jC) (v0 : Nat) (v1 : Int32) (v2 : Int32) (v3 : Nat) (Z : jZ) (I : jI) (L : jL) (Q : Int32 → jI → jL → Prop) (hZ : SH Z) (kv0 : jk Z v0 11) (kv3 : jk Z v3 15) (h : f_L_step v0 v1 v2 v3 Z I L Q) : jCtH l yL_step w_L_step { frames := 7, cells := 1, slots := 6, locals := 112 } D cy [.ref v0, .int v1, .int v2, .ref v3] Z I L (rtI Z Q) := by
  refine jCtH_of (cc := cL_step) (maxL := 5) (ret := (some .int)) (by decide +kernel) rfl (Nat.le_of_ble_eq_true rfl) ?_
  intro G eD eY eL E hV htb
  subst eD; subst eY; subst eL
  have E : jE G cL_step RL w_L_step 5 (some .int) { frames := 7, cells := 1, slots := 6, locals := 112 } (rtI Z Q) := E
  show jJ G 5 0 [(0, .ref v0), (1, .int v1), (2, .int v2), (3, .ref v3)] [] Z I L 0 0
  refine j_aload_n E dL_step_0 3 rfl ?_
  refine j_iconst E (v := 0) dL_step_1 (by decide) ?_
  refine j_aload_n E dL_step_2 0 rfl ?_
  refine j_iload_n E dL_step_3 1 rfl ?_
  refine j_iload_n E dL_step_4 2 rfl ?_
  refine j_callVX E hV (hh := (0, 10, 13, 13)) htb ⟨by decide, by decide⟩ (by decide) (tw W_952) [.int v1, .int v2] [.int (0 : Int32), .ref v3] (c_X11_step (gL G) hl0 (gD G) (gY G) v0 v1 v2 Z I L _ _ hZ kv0 h) (gwV W_949 W_950 W_951 W_40 W_948) rfl ⟨rfl, fy_X11_step⟩ ⟨by decide, by decide⟩ (c := 11) rfl (by decide) kv0 rfl rfl (Nat.le_of_ble_eq_true rfl) ⟨by decide, by decide⟩ dL_step_5 (fun v9 Z9 I3 L4 q8 => ?_) (fun q1 Z9 I5 L6 q8 => ?_)
  · obtain ⟨rfl, r2, rfl, h⟩ := q8
    show jJ G 5 8 [(0, .ref v0), (1, .int v1), (2, .int v2), (3, .ref v3)] [.int r2, .int (0 : Int32), .ref v3] Z I3 L4 1 6
    refine j_i2l E dL_step_8 ?_
    obtain ⟨o7, h⟩ := h
    refine j_last E kv3 o7 dL_step_9 ?_
    refine j_nmL (fun L8 eL8 => ?_)
    have h := h L8 eL8
    refine j_goto E 17 dL_step_10 (by decide) ?_
    refine j_iconst E (v := 0) dL_step_17 (by decide) ?_
    exact j_ireturn E ⟨rfl, _, rfl, h⟩ (by decide) (by decide) dL_step_18
  · obtain ⟨rfl, h⟩ := q8
    show jJ G 5 13 [(0, .ref v0), (1, .int v1), (2, .int v2), (3, .ref v3)] [.ref q1] Z I5 L6 1 6
    refine j_astore E 4 [(4, .ref q1), (0, .ref v0), (1, .int v1), (2, .int v2), (3, .ref v3)] dL_step_13 (by decide) rfl ?_
    refine j_iconst E (v := 1) dL_step_15 (by decide) ?_
    exact j_ireturn E ⟨rfl, _, rfl, h⟩ (by decide) (by decide) dL_step_16
set_option maxRecDepth 100000 in
def f_L_of (v0 : Nat) (v1 : Int32) (v2 : Int32) (v3 : Nat) (Z : jZ) (I : jI) (L : jL) (Q : Int32 → jI → jL → Prop) : Prop := (f_X11_of v0 v1 v2 Z I L (fun r2 I3 L4 => (vp_in (0 : Int32) (jlen Z v3) ∧ (∀ L8 : jL, L8 = jpL L4 v3 (0 : Int32).toNatClampNeg (r2.toInt64) → Q (0 : Int32) I3 L8))) (fun I5 L6 => Q (1 : Int32) I5 L6))
set_option maxHeartbeats 4000000 in
set_option maxRecDepth 100000 in
theorem c_L_of (l : Launch) (hl0 : l.stackTraces = false) (D : va_G) (cy : jC) (v0 : Nat) (v1 : Int32) (v2 : Int32) (v3 : Nat) (Z : jZ) (I : jI) (L : jL) (Q : Int32 → jI → jL → Prop) (hZ : SH Z) (kv0 : jk Z v0 11) (kv3 : jk Z v3 15) (h : f_L_of v0 v1 v2 v3 Z I L Q) : jCtH l yL_of w_L_of { frames := 7, cells := 1, slots := 6, locals := 113 } D cy [.ref v0, .int v1, .int v2, .ref v3] Z I L (rtI Z Q) := by
  refine jCtH_of (cc := cL_of) (maxL := 5) (ret := (some .int)) (by decide +kernel) rfl (Nat.le_of_ble_eq_true rfl) ?_
  intro G eD eY eL E hV htb
  subst eD; subst eY; subst eL
  have E : jE G cL_of RL w_L_of 5 (some .int) { frames := 7, cells := 1, slots := 6, locals := 113 } (rtI Z Q) := E
  show jJ G 5 0 [(0, .ref v0), (1, .int v1), (2, .int v2), (3, .ref v3)] [] Z I L 0 0
  refine j_aload_n E dL_of_0 3 rfl ?_
  refine j_iconst E (v := 0) dL_of_1 (by decide) ?_
  refine j_aload_n E dL_of_2 0 rfl ?_
  refine j_iload_n E dL_of_3 1 rfl ?_
  refine j_iload_n E dL_of_4 2 rfl ?_
  refine j_callVX E hV (hh := (0, 10, 13, 13)) htb ⟨by decide, by decide⟩ (by decide) (tw W_952) [.int v1, .int v2] [.int (0 : Int32), .ref v3] (c_X11_of (gL G) hl0 (gD G) (gY G) v0 v1 v2 Z I L _ _ hZ kv0 h) (gwV W_954 W_955 W_956 W_40 W_953) rfl ⟨rfl, fy_X11_of⟩ ⟨by decide, by decide⟩ (c := 11) rfl (by decide) kv0 rfl rfl (Nat.le_of_ble_eq_true rfl) ⟨by decide, by decide⟩ dL_of_5 (fun v9 Z9 I3 L4 q8 => ?_) (fun q1 Z9 I5 L6 q8 => ?_)
  · obtain ⟨rfl, r2, rfl, h⟩ := q8
    show jJ G 5 8 [(0, .ref v0), (1, .int v1), (2, .int v2), (3, .ref v3)] [.int r2, .int (0 : Int32), .ref v3] Z I3 L4 1 6
    refine j_i2l E dL_of_8 ?_
    obtain ⟨o7, h⟩ := h
    refine j_last E kv3 o7 dL_of_9 ?_
    refine j_nmL (fun L8 eL8 => ?_)
    have h := h L8 eL8
    refine j_goto E 17 dL_of_10 (by decide) ?_
    refine j_iconst E (v := 0) dL_of_17 (by decide) ?_
    exact j_ireturn E ⟨rfl, _, rfl, h⟩ (by decide) (by decide) dL_of_18
  · obtain ⟨rfl, h⟩ := q8
    show jJ G 5 13 [(0, .ref v0), (1, .int v1), (2, .int v2), (3, .ref v3)] [.ref q1] Z I5 L6 1 6
    refine j_astore E 4 [(4, .ref q1), (0, .ref v0), (1, .int v1), (2, .int v2), (3, .ref v3)] dL_of_13 (by decide) rfl ?_
    refine j_iconst E (v := 1) dL_of_15 (by decide) ?_
    exact j_ireturn E ⟨rfl, _, rfl, h⟩ (by decide) (by decide) dL_of_16
end
section
set_option maxRecDepth 100000 in
def f_L_row (v0 : Nat) (v1 : Int32) (v2 : Nat) (Z : jZ) (I : jI) (L : jL) (Q : Int32 → jI → jL → Prop) : Prop := (f_X11_row v0 v1 Z I L (fun r2 I3 L4 => (vp_in (0 : Int32) (jlen Z v2) ∧ (∀ L8 : jL, L8 = jpL L4 v2 (0 : Int32).toNatClampNeg r2 → Q (0 : Int32) I3 L8))) (fun I5 L6 => Q (1 : Int32) I5 L6))
set_option maxHeartbeats 4000000 in
set_option maxRecDepth 100000 in
theorem c_L_row (l : Launch) (hl0 : l.stackTraces = false) (D : va_G) (cy : jC) (v0 : Nat) (v1 : Int32) (v2 : Nat) (Z : jZ) (I : jI) (L : jL) (Q : Int32 → jI → jL → Prop) (hZ : SH Z) (kv0 : jk Z v0 11) (kv2 : jk Z v2 15) (h : f_L_row v0 v1 v2 Z I L Q) : jCtH l yL_row w_L_row { frames := 7, cells := 1, slots := 6, locals := 111 } D cy [.ref v0, .int v1, .ref v2] Z I L (rtI Z Q) := by
  refine jCtH_of (cc := cL_row) (maxL := 4) (ret := (some .int)) (by decide +kernel) rfl (Nat.le_of_ble_eq_true rfl) ?_
  intro G eD eY eL E hV htb
  subst eD; subst eY; subst eL
  have E : jE G cL_row RL w_L_row 4 (some .int) { frames := 7, cells := 1, slots := 6, locals := 111 } (rtI Z Q) := E
  show jJ G 4 0 [(0, .ref v0), (1, .int v1), (2, .ref v2)] [] Z I L 0 0
  refine j_aload_n E dL_row_0 2 rfl ?_
  refine j_iconst E (v := 0) dL_row_1 (by decide) ?_
  refine j_aload_n E dL_row_2 0 rfl ?_
  refine j_iload_n E dL_row_3 1 rfl ?_
  refine j_callVX E hV (hh := (0, 8, 11, 13)) htb ⟨by decide, by decide⟩ (by decide) (tw W_952) [.int v1] [.int (0 : Int32), .ref v2] (c_X11_row (gL G) hl0 (gD G) (gY G) v0 v1 Z I L _ _ hZ kv0 h) (gwV W_958 W_959 W_960 W_40 W_957) rfl ⟨rfl, fy_X11_row⟩ ⟨by decide, by decide⟩ (c := 11) rfl (by decide) kv0 rfl rfl (Nat.le_of_ble_eq_true rfl) ⟨by decide, by decide⟩ dL_row_4 (fun v9 Z9 I3 L4 q8 => ?_) (fun q1 Z9 I5 L6 q8 => ?_)
  · obtain ⟨rfl, r2, rfl, h⟩ := q8
    show jJ G 4 7 [(0, .ref v0), (1, .int v1), (2, .ref v2)] [.long r2, .int (0 : Int32), .ref v2] Z I3 L4 1 6
    obtain ⟨o7, h⟩ := h
    refine j_last E kv2 o7 dL_row_7 ?_
    refine j_nmL (fun L8 eL8 => ?_)
    have h := h L8 eL8
    refine j_goto E 14 dL_row_8 (by decide) ?_
    refine j_iconst E (v := 0) dL_row_14 (by decide) ?_
    exact j_ireturn E ⟨rfl, _, rfl, h⟩ (by decide) (by decide) dL_row_15
  · obtain ⟨rfl, h⟩ := q8
    show jJ G 4 11 [(0, .ref v0), (1, .int v1), (2, .ref v2)] [.ref q1] Z I5 L6 1 6
    refine j_astore_n E 3 [(3, .ref q1), (0, .ref v0), (1, .int v1), (2, .ref v2)] dL_row_11 rfl (by decide) rfl ?_
    refine j_iconst E (v := 1) dL_row_12 (by decide) ?_
    exact j_ireturn E ⟨rfl, _, rfl, h⟩ (by decide) (by decide) dL_row_13
set_option maxRecDepth 100000 in
def f_X11_pilgrim_b49  (Q : Int32 → jZ → jI → jL → Prop) (v0 : Nat) (v1 : Int32) (v2 : Int32) (v3 : Int32) (v4 : Int32) (s0 : Int32) (Z : jZ) (I : jI) (L : jL) : Prop := ((s0 = 0 → Q (-1 : Int32) Z I L) ∧ (¬ (s0 = 0) → (((I v0 4) < (6 : Int32) → (∀ b3 : Nat, jr Z v0 3 = some b3 → (∀ q4 : Nat, q4 ∉ Z.1 → ∀ Z5 : jZ, Z5 = jnw Z q4 5 0 → ∀ I6 : jI, I6 = jz0 I q4 → ∀ L7 : jL, L7 = jzL L q4 → (∀ b11 : Nat, jr Z5 v0 2 = some b11 → (f_X5_init q4 b11 v1 v2 v3 v4 Z5 I6 L7 (fun Z13 I14 L15 => (vp_in (I v0 4) 6 ∧ (∀ Z22 : jZ, Z22 = jpR Z13 b3 (I v0 4).toNatClampNeg (some q4) → (∀ I24 : jI, I24 = jpI I14 v0 4 ((I14 v0 4) + (1 : Int32)) → (SH Z22 ∧ Q ((I24 v0 4) - (1 : Int32)) Z22 I24 L15)))))))))) ∧ (¬ ((I v0 4) < (6 : Int32)) → Q (-1 : Int32) Z I L))))
set_option maxHeartbeats 4000000 in
set_option maxRecDepth 100000 in
theorem m_X11_pilgrim_b49 {G : jG} {Z0 : jZ} {Q : Int32 → jZ → jI → jL → Prop} (E : jE G cX11_pilgrim RX11 w_X11_pilgrim 6 (some .int) { frames := 4, cells := 26, slots := 585, locals := 89 } (xrtI Z0 Q))  (v0 : Nat) (v1 : Int32) (v2 : Int32) (v3 : Int32) (v4 : Int32) (s0 : Int32) (Z : jZ) (I : jI) (L : jL) (hZ : SH Z) (hx : jext Z0 Z) (kv0 : jk Z v0 11) (h : f_X11_pilgrim_b49  Q v0 v1 v2 v3 v4 s0 Z I L) : jJ G 6 49 [(0, .ref v0), (1, .int v1), (2, .int v2), (3, .int v3), (4, .int v4)] [.int s0] Z I L 0 0 := by
  refine j_istore E 5 [(5, .int s0), (0, .ref v0), (1, .int v1), (2, .int v2), (3, .int v3), (4, .int v4)] dX11_pilgrim_49 (by decide) rfl ?_
  refine j_iload E dX11_pilgrim_51 0 rfl ?_
  refine j_if_eq E 65 dX11_pilgrim_53 (by decide) (fun c1 => ?_) (fun c1 => ?_)
  · have h := h.1 c1
    refine j_iconst E (v := -1) dX11_pilgrim_65 (by decide) ?_
    exact j_ireturn E ⟨hx, hZ, _, rfl, h⟩ (Nat.zero_le _) (Nat.zero_le _) dX11_pilgrim_66
  · have h := h.2 c1
    refine j_aload_n E dX11_pilgrim_56 1 rfl ?_
    refine j_geti E 11 4 rfl rfl (by decide) (by decide) (iw iT_11) rfl rfl (tw W_431) kv0 dX11_pilgrim_57 ?_
    refine j_bipush E (v := 6) dX11_pilgrim_60 (by decide) ?_
    refine j_icmp_lt E 67 dX11_pilgrim_62 (by decide) (fun c2 => ?_) (fun c2 => ?_)
    · have h := h.1 c2
      refine j_aload_n E dX11_pilgrim_67 1 rfl ?_
      obtain ⟨b3, eb3, kb3, lb3⟩ := sh_f hZ kv0 (j := 3) (k := 18) (m := 6) rfl
      have h := h b3 eb3
      refine j_getr E 11 3 rfl rfl (by decide) (by decide) (iw iT_11) rfl rfl (tw W_432) kv0 eb3 dX11_pilgrim_68 ?_
      refine j_aload_n E dX11_pilgrim_71 1 rfl ?_
      refine j_geti E 11 4 rfl rfl (by decide) (by decide) (iw iT_11) rfl rfl (tw W_431) kv0 dX11_pilgrim_72 ?_
      refine j_new E 5 rfl rfl (by decide) (iw iT_5) tyX5_ok (by decide) (tw W_1003) (tw W_1029) (tw W_441) (by decide) (by decide) dX11_pilgrim_75 (fun q4 nq4 => ?_)
      refine j_nmZ (fun Z5 eZ5 => ?_)
      refine j_nmI (fun I6 eI6 => ?_)
      refine j_nmL (fun L7 eL7 => ?_)
      have h := h q4 nq4 Z5 eZ5 I6 eI6 L7 eL7
      have yZ5 : jext Z Z5 := by rw [eZ5]; exact jext_nw nq4
      have kq4 : jk Z5 q4 5 := by rw [eZ5]; exact jk_nw
      have k8 := (yZ5 _ _ kv0).1
      have k9 := (yZ5 _ _ kb3).1
      have l10 := (yZ5 _ _ kb3).2.trans lb3
      have hx : jext Z0 Z5 := jext_trans hx yZ5
      refine j_dup E dX11_pilgrim_78 rfl ?_
      refine j_aload_n E dX11_pilgrim_79 1 rfl ?_
      obtain ⟨b11, eb11, kb11⟩ := sh_o hZ kv0 (j := 2) (k := 8) rfl
      have eb11 : jr Z5 v0 2 = some b11 := by rw [eZ5]; exact (congrFun (show (jnw Z q4 5 0).2.2.2 v0 = Z.2.2.2 v0 from va_up_ne _ _ (fun e => nq4 (e ▸ kv0.1))) 2).trans eb11
      have kb11 := (yZ5 _ _ kb11).1
      have h := h b11 eb11
      refine j_getr E 11 2 rfl rfl (by decide) (by decide) (iw iT_11) rfl rfl (tw W_454) k8 eb11 dX11_pilgrim_80 ?_
      refine j_iload_n E dX11_pilgrim_83 2 rfl ?_
      refine j_iload_n E dX11_pilgrim_84 3 rfl ?_
      refine j_iload_n E dX11_pilgrim_85 4 rfl ?_
      refine j_iload E dX11_pilgrim_86 5 rfl ?_
      refine j_callI E [.ref b11, .int v1, .int v2, .int v3, .int v4] [.ref q4, .int (I v0 4), .ref b3] (c_X5_init (gL G) (gD G) (gY G) q4 b11 v1 v2 v3 v4 Z5 I6 L7 _ kq4 kb11 h) (gwN W_1030) rfl (tw W_441) (tw W_1031) (tw W_1032) rfl fy_X5_init ⟨by decide, by decide⟩ rfl rfl (Nat.le_of_ble_eq_true rfl) ⟨by decide, by decide⟩ dX11_pilgrim_88 (fun v12 Z13 I14 L15 q16 => ?_)
      obtain ⟨yZ13, rfl, h⟩ := q16
      have k17 := (yZ13 _ _ k8).1
      have k18 := (yZ13 _ _ k9).1
      have l19 := (yZ13 _ _ k9).2.trans l10
      have k20 := (yZ13 _ _ kq4).1
      have hx : jext Z0 Z13 := jext_trans hx yZ13
      show jJ G 6 91 [(5, .int s0), (0, .ref v0), (1, .int v1), (2, .int v2), (3, .int v3), (4, .int v4)] [.ref q4, .int (I v0 4), .ref b3] Z13 I14 L15 _ _
      obtain ⟨o21, h⟩ := h
      refine j_aastP E k18 (by rw [l19]; exact o21) k20 dX11_pilgrim_91 ?_
      refine j_nmZ (fun Z22 eZ22 => ?_)
      have h := h Z22 eZ22
      have yZ22 : jext Z13 Z22 := by rw [eZ22]; exact jext_putr
      have k23 := (yZ22 _ _ k17).1
      have hx : jext Z0 Z22 := jext_trans hx yZ22
      refine j_aload_n E dX11_pilgrim_92 1 rfl ?_
      refine j_dup E dX11_pilgrim_93 rfl ?_
      refine j_geti E 11 4 rfl rfl (by decide) (by decide) (iw iT_11) rfl rfl (tw W_431) k23 dX11_pilgrim_94 ?_
      refine j_iconst E (v := 1) dX11_pilgrim_97 (by decide) ?_
      refine j_iadd E dX11_pilgrim_98 ?_
      refine j_puti E 11 4 rfl rfl (by decide) (by decide) (iw iT_11) tyX11_ok nmX11 rfl rfl (tw W_431) rfl rfl rfl k23 dX11_pilgrim_99 ?_
      refine j_nmI (fun I24 eI24 => ?_)
      have h := h I24 eI24
      refine j_aload_n E dX11_pilgrim_102 1 rfl ?_
      refine j_geti E 11 4 rfl rfl (by decide) (by decide) (iw iT_11) rfl rfl (tw W_431) k23 dX11_pilgrim_103 ?_
      refine j_iconst E (v := 1) dX11_pilgrim_106 (by decide) ?_
      refine j_isub E dX11_pilgrim_107 ?_
      obtain ⟨o25, h⟩ := h
      exact j_ireturn E ⟨hx, o25, _, rfl, h⟩ (by decide) (by decide) dX11_pilgrim_108
    · have h := h.2 c2
      refine j_iconst E (v := -1) dX11_pilgrim_65 (by decide) ?_
      exact j_ireturn E ⟨hx, hZ, _, rfl, h⟩ (Nat.zero_le _) (Nat.zero_le _) dX11_pilgrim_66
set_option maxRecDepth 100000 in
def f_X11_pilgrim_b48  (Q : Int32 → jZ → jI → jL → Prop) (v0 : Nat) (v1 : Int32) (v2 : Int32) (v3 : Int32) (v4 : Int32) (Z : jZ) (I : jI) (L : jL) : Prop := f_X11_pilgrim_b49  Q v0 v1 v2 v3 v4 (0 : Int32) Z I L
set_option maxHeartbeats 4000000 in
set_option maxRecDepth 100000 in
theorem m_X11_pilgrim_b48 {G : jG} {Z0 : jZ} {Q : Int32 → jZ → jI → jL → Prop} (E : jE G cX11_pilgrim RX11 w_X11_pilgrim 6 (some .int) { frames := 4, cells := 26, slots := 585, locals := 89 } (xrtI Z0 Q))  (v0 : Nat) (v1 : Int32) (v2 : Int32) (v3 : Int32) (v4 : Int32) (Z : jZ) (I : jI) (L : jL) (hZ : SH Z) (hx : jext Z0 Z) (kv0 : jk Z v0 11) (h : f_X11_pilgrim_b48  Q v0 v1 v2 v3 v4 Z I L) : jJ G 6 48 [(0, .ref v0), (1, .int v1), (2, .int v2), (3, .int v3), (4, .int v4)] [] Z I L 0 0 := by
  refine j_iconst E (v := 0) dX11_pilgrim_48 (by decide) ?_
  refine j_sub [0, 1, 2, 3, 4] rfl ?_
  exact m_X11_pilgrim_b49 E  v0 v1 v2 v3 v4 (0 : Int32) Z I L hZ hx kv0 h
set_option maxRecDepth 100000 in
def f_X11_pilgrim (v0 : Nat) (v1 : Int32) (v2 : Int32) (v3 : Int32) (v4 : Int32) (Z : jZ) (I : jI) (L : jL) (Q : Int32 → jZ → jI → jL → Prop) : Prop := ((v1 < (1 : Int32) → f_X11_pilgrim_b48  Q v0 v1 v2 v3 v4 Z I L) ∧ (¬ (v1 < (1 : Int32)) → (((120 : Int32) < v1 → f_X11_pilgrim_b48  Q v0 v1 v2 v3 v4 Z I L) ∧ (¬ ((120 : Int32) < v1) → ((v2 < 0 → f_X11_pilgrim_b48  Q v0 v1 v2 v3 v4 Z I L) ∧ (¬ (v2 < 0) → (((999 : Int32) < v2 → f_X11_pilgrim_b48  Q v0 v1 v2 v3 v4 Z I L) ∧ (¬ ((999 : Int32) < v2) → ((v3 < (1 : Int32) → f_X11_pilgrim_b48  Q v0 v1 v2 v3 v4 Z I L) ∧ (¬ (v3 < (1 : Int32)) → (((3 : Int32) < v3 → f_X11_pilgrim_b48  Q v0 v1 v2 v3 v4 Z I L) ∧ (¬ ((3 : Int32) < v3) → ((v4 < 0 → f_X11_pilgrim_b48  Q v0 v1 v2 v3 v4 Z I L) ∧ (¬ (v4 < 0) → (((50 : Int32) < v4 → f_X11_pilgrim_b48  Q v0 v1 v2 v3 v4 Z I L) ∧ (¬ ((50 : Int32) < v4) → f_X11_pilgrim_b49  Q v0 v1 v2 v3 v4 (1 : Int32) Z I L))))))))))))))))
set_option maxHeartbeats 4000000 in
set_option maxRecDepth 100000 in
theorem c_X11_pilgrim (l : Launch) (D : va_G) (cy : jC) (v0 : Nat) (v1 : Int32) (v2 : Int32) (v3 : Int32) (v4 : Int32) (Z : jZ) (I : jI) (L : jL) (Q : Int32 → jZ → jI → jL → Prop) (hZ : SH Z) (kv0 : jk Z v0 11) (h : f_X11_pilgrim v0 v1 v2 v3 v4 Z I L Q) : jCt l yX11_pilgrim w_X11_pilgrim { frames := 4, cells := 26, slots := 585, locals := 89 } D cy [.ref v0, .int v1, .int v2, .int v3, .int v4] Z I L (xrtI Z Q) := by
  refine jCt_of (cc := cX11_pilgrim) (maxL := 6) (ret := (some .int)) (by decide +kernel) rfl (Nat.le_of_ble_eq_true rfl) ?_
  intro G eD eY eL E
  subst eD; subst eY; subst eL
  have E : jE G cX11_pilgrim RX11 w_X11_pilgrim 6 (some .int) { frames := 4, cells := 26, slots := 585, locals := 89 } (xrtI Z Q) := E
  have hx : jext Z Z := jext_rfl
  show jJ G 6 0 [(0, .ref v0), (1, .int v1), (2, .int v2), (3, .int v3), (4, .int v4)] [] Z I L 0 0
  refine j_iload_n E dX11_pilgrim_0 1 rfl ?_
  refine j_iconst E (v := 1) dX11_pilgrim_1 (by decide) ?_
  refine j_icmp_lt E 48 dX11_pilgrim_2 (by decide) (fun c26 => ?_) (fun c26 => ?_)
  · have h := h.1 c26
    refine j_sub [0, 1, 2, 3, 4] rfl ?_
    exact m_X11_pilgrim_b48 E  v0 v1 v2 v3 v4 Z I L hZ hx kv0 h
  · have h := h.2 c26
    refine j_iload_n E dX11_pilgrim_5 1 rfl ?_
    refine j_bipush E (v := 120) dX11_pilgrim_6 (by decide) ?_
    refine j_icmp_gt E 48 dX11_pilgrim_8 (by decide) (fun c27 => ?_) (fun c27 => ?_)
    · have h := h.1 c27
      refine j_sub [0, 1, 2, 3, 4] rfl ?_
      exact m_X11_pilgrim_b48 E  v0 v1 v2 v3 v4 Z I L hZ hx kv0 h
    · have h := h.2 c27
      refine j_iload_n E dX11_pilgrim_11 2 rfl ?_
      refine j_if_lt E 48 dX11_pilgrim_12 (by decide) (fun c28 => ?_) (fun c28 => ?_)
      · have h := h.1 c28
        refine j_sub [0, 1, 2, 3, 4] rfl ?_
        exact m_X11_pilgrim_b48 E  v0 v1 v2 v3 v4 Z I L hZ hx kv0 h
      · have h := h.2 c28
        refine j_iload_n E dX11_pilgrim_15 2 rfl ?_
        refine j_sipush E (v := 999) dX11_pilgrim_16 (by decide) ?_
        refine j_icmp_gt E 48 dX11_pilgrim_19 (by decide) (fun c29 => ?_) (fun c29 => ?_)
        · have h := h.1 c29
          refine j_sub [0, 1, 2, 3, 4] rfl ?_
          exact m_X11_pilgrim_b48 E  v0 v1 v2 v3 v4 Z I L hZ hx kv0 h
        · have h := h.2 c29
          refine j_iload_n E dX11_pilgrim_22 3 rfl ?_
          refine j_iconst E (v := 1) dX11_pilgrim_23 (by decide) ?_
          refine j_icmp_lt E 48 dX11_pilgrim_24 (by decide) (fun c30 => ?_) (fun c30 => ?_)
          · have h := h.1 c30
            refine j_sub [0, 1, 2, 3, 4] rfl ?_
            exact m_X11_pilgrim_b48 E  v0 v1 v2 v3 v4 Z I L hZ hx kv0 h
          · have h := h.2 c30
            refine j_iload_n E dX11_pilgrim_27 3 rfl ?_
            refine j_iconst E (v := 3) dX11_pilgrim_28 (by decide) ?_
            refine j_icmp_gt E 48 dX11_pilgrim_29 (by decide) (fun c31 => ?_) (fun c31 => ?_)
            · have h := h.1 c31
              refine j_sub [0, 1, 2, 3, 4] rfl ?_
              exact m_X11_pilgrim_b48 E  v0 v1 v2 v3 v4 Z I L hZ hx kv0 h
            · have h := h.2 c31
              refine j_iload E dX11_pilgrim_32 4 rfl ?_
              refine j_if_lt E 48 dX11_pilgrim_34 (by decide) (fun c32 => ?_) (fun c32 => ?_)
              · have h := h.1 c32
                refine j_sub [0, 1, 2, 3, 4] rfl ?_
                exact m_X11_pilgrim_b48 E  v0 v1 v2 v3 v4 Z I L hZ hx kv0 h
              · have h := h.2 c32
                refine j_iload E dX11_pilgrim_37 4 rfl ?_
                refine j_bipush E (v := 50) dX11_pilgrim_39 (by decide) ?_
                refine j_icmp_gt E 48 dX11_pilgrim_41 (by decide) (fun c33 => ?_) (fun c33 => ?_)
                · have h := h.1 c33
                  refine j_sub [0, 1, 2, 3, 4] rfl ?_
                  exact m_X11_pilgrim_b48 E  v0 v1 v2 v3 v4 Z I L hZ hx kv0 h
                · have h := h.2 c33
                  refine j_iconst E (v := 1) dX11_pilgrim_44 (by decide) ?_
                  refine j_goto E 49 dX11_pilgrim_45 (by decide) ?_
                  refine j_sub [0, 1, 2, 3, 4] rfl ?_
                  exact m_X11_pilgrim_b49 E  v0 v1 v2 v3 v4 (1 : Int32) Z I L hZ hx kv0 h
end
section
/-! ===== ints as numbers ===== -/
theorem i_rng (x : Int32) : -2147483648 ≤ x.toInt ∧ x.toInt ≤ 2147483647 := by
  have h1 := Int32.le_toInt x
  have h2 := Int32.toInt_lt x
  omega
theorem i_add {x y : Int32} {A B : Int} (hx : x.toInt = A) (hy : y.toInt = B) (h1 : -2147483648 ≤ A + B) (h2 : A + B ≤ 2147483647) : (x + y).toInt = A + B := by
  subst hx; subst hy
  rw [Int32.toInt_add, Int.bmod_def]; omega
theorem i_sub {x y : Int32} {A B : Int} (hx : x.toInt = A) (hy : y.toInt = B) (h1 : -2147483648 ≤ A - B) (h2 : A - B ≤ 2147483647) : (x - y).toInt = A - B := by
  subst hx; subst hy
  rw [Int32.toInt_sub, Int.bmod_def]; omega
theorem i_mul {x y : Int32} {A B : Int} (hx : x.toInt = A) (hy : y.toInt = B) (h1 : -2147483648 ≤ A * B) (h2 : A * B ≤ 2147483647) : (x * y).toInt = A * B := by
  subst hx; subst hy
  rw [Int32.toInt_mul, Int.bmod_def]
  generalize x.toInt * y.toInt = t at h1 h2 ⊢
  omega
theorem i_neg {x : Int32} {A : Int} (hx : x.toInt = A) (h1 : -2147483648 < A) : (-x).toInt = -A := by
  subst hx
  have := i_rng x
  rw [Int32.toInt_neg, Int.bmod_def]; omega
theorem i_div {x y : Int32} {A B : Int} (hx : x.toInt = A) (hy : y.toInt = B) (h0 : 0 ≤ A) (h1 : 0 < B) : (x / y).toInt = A / B := by
  subst hx; subst hy
  have hr := i_rng x
  rw [Int32.toInt_div, Int.tdiv_eq_ediv_of_nonneg h0, Int.bmod_def]
  have h2 : 0 ≤ x.toInt / y.toInt := Int.ediv_nonneg h0 (by omega)
  have h3 : x.toInt / y.toInt ≤ x.toInt := Int.ediv_le_self _ h0
  generalize x.toInt / y.toInt = t at h2 h3 ⊢
  omega
theorem i_rem {x y : Int32} {A B : Int} (hx : x.toInt = A) (hy : y.toInt = B) (h0 : 0 ≤ A) (h1 : 0 < B) : (x - x / y * y).toInt = A % B := by
  have hd := i_div hx hy h0 h1
  have e : A / B * B = A - A % B := by
    have := Int.mul_ediv_add_emod A B
    rw [Int.mul_comm] at this
    omega
  have g1 := Int.emod_nonneg A (show B ≠ 0 by omega)
  have g2 := Int.emod_lt_of_pos A h1
  have g3 := i_rng x
  have g4 : A % B ≤ A := by
    by_cases hl : A < B
    · rw [Int.emod_eq_of_lt h0 hl]; omega
    · omega
  have hm := i_mul hd hy (by omega) (by omega)
  have hs := i_sub hx hm (by omega) (by omega)
  rw [hs]; omega
theorem i_lt {x y : Int32} {A B : Int} (hx : x.toInt = A) (hy : y.toInt = B) : x < y ↔ A < B := by
  subst hx; subst hy; exact Int32.lt_iff_toInt_lt
theorem i_le {x y : Int32} {A B : Int} (hx : x.toInt = A) (hy : y.toInt = B) : x ≤ y ↔ A ≤ B := by
  subst hx; subst hy; exact Int32.le_iff_toInt_le
theorem i_eq {x y : Int32} {A B : Int} (hx : x.toInt = A) (hy : y.toInt = B) : x = y ↔ A = B := by
  subst hx; subst hy; exact ⟨fun h => by rw [h], fun h => Int32.toInt_inj.mp h⟩
theorem i_max {x y : Int32} {A B : Int} (hx : x.toInt = A) (hy : y.toInt = B) : (if x < y then y else x).toInt = max A B := by
  have := i_lt hx hy
  by_cases h : x < y
  · rw [if_pos h, hy]; have := this.mp h; omega
  · rw [if_neg h, hx]; have := (not_congr this).mp h; omega
theorem i_min {x y : Int32} {A B : Int} (hx : x.toInt = A) (hy : y.toInt = B) : (if y < x then y else x).toInt = min A B := by
  have := i_lt hy hx
  by_cases h : y < x
  · rw [if_pos h, hy]; have := this.mp h; omega
  · rw [if_neg h, hx]; have := (not_congr this).mp h; omega
theorem i_nI {n : Nat} (h : n ≤ 2147483647) : (nI n).toInt = (n : Int) := by
  show (Int32.ofNat n).toInt = _
  first | exact Int32.toInt_ofNat_of_lt (by omega) | exact Int32.toInt_ofNat_small (by omega) | (rw [Int32.toInt_ofNat', Int.bmod_def]; omega)
theorem vi_of {x : Int32} {A : Int} {n : Nat} (hx : x.toInt = A) (h0 : 0 ≤ A) (h1 : A < (n : Int)) : vp_in x n := vp_in_iff.mpr (by rw [hx]; exact ⟨h0, h1⟩)
theorem i_nat {x : Int32} {A : Int} (hx : x.toInt = A) (h0 : 0 ≤ A) : ((x.toNatClampNeg : Nat) : Int) = A := by
  show ((x.toInt.toNat : Nat) : Int) = A
  omega
theorem i_and {x : Int32} {n : Nat} (h : n < 31) : 0 ≤ (x &&& Int32.ofNat (2 ^ n - 1)).toInt ∧ (x &&& Int32.ofNat (2 ^ n - 1)).toInt < 2 ^ n := by
  have e : ∀ a b : Int32, (a &&& b).toBitVec = a.toBitVec &&& b.toBitVec := fun _ _ => rfl
  have h2 : 2 ^ n < 2 ^ 31 := Nat.pow_lt_pow_right (by omega) h
  have hm : (Int32.ofNat (2 ^ n - 1)).toBitVec.toNat = 2 ^ n - 1 := by
    show (BitVec.ofNat 32 (2 ^ n - 1)).toNat = _
    rw [BitVec.toNat_ofNat]; omega
  have hN : (x &&& Int32.ofNat (2 ^ n - 1)).toBitVec.toNat < 2 ^ n := by
    rw [e, BitVec.toNat_and, hm]
    have := Nat.and_le_right (n := x.toBitVec.toNat) (m := 2 ^ n - 1)
    have h3 : 0 < 2 ^ n := Nat.two_pow_pos n
    omega
  have hi : (x &&& Int32.ofNat (2 ^ n - 1)).toInt = (((x &&& Int32.ofNat (2 ^ n - 1)).toBitVec.toNat : Nat) : Int) := by
    show (x &&& Int32.ofNat (2 ^ n - 1)).toBitVec.toInt = _
    rw [BitVec.toInt_eq_toNat_of_lt (by omega)]
  rw [hi]
  constructor
  · omega
  · exact_mod_cast hN
end
