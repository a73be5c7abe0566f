set_option maxRecDepth 100000 in
def f_X6_addOffers_b148 (K88 : Nat → Nat → Nat → Int32 → jI → jL → Prop) (Z : jZ) (Q : jI → jL → Prop) (v0 : Nat) (v2 : Nat) (v3 : Nat) (v4 : Int32) (I : jI) (L : jL) : Prop := (∀ x1 : Int32, x1 = v4 + 1 → K88 v0 v2 v3 x1 I L)
set_option maxHeartbeats 4000000 in
set_option maxRecDepth 100000 in
theorem m_X6_addOffers_b148 {G : jG} {Z : jZ} {Q : jI → jL → Prop} (E : jE G cX6_addOffers RX6 w_X6_addOffers 6 none { frames := 4, cells := 0, slots := 0, locals := 112 } (rtV Z Q)) (hZ : SH Z) (K88 : Nat → Nat → Nat → Int32 → jI → jL → Prop) (hK88 : ∀ (v0 : Nat) (v2 : Nat) (v3 : Nat) (v4 : Int32) (I : jI) (L : jL), jk Z v0 6 → jk Z v2 14 → jk Z v3 14 → K88 v0 v2 v3 v4 I L → jJ G 6 88 [(0, .ref v0), (2, .ref v2), (3, .ref v3), (4, .int v4)] [] Z I L 0 0) (v0 : Nat) (v2 : Nat) (v3 : Nat) (v4 : Int32) (I : jI) (L : jL) (kv0 : jk Z v0 6) (kv2 : jk Z v2 14) (kv3 : jk Z v3 14) (h : f_X6_addOffers_b148 K88 Z Q v0 v2 v3 v4 I L) : jJ G 6 148 [(0, .ref v0), (2, .ref v2), (3, .ref v3), (4, .int v4)] [] Z I L 0 0 := by
  obtain ⟨x1, ex1⟩ : ∃ y : Int32, y = v4 + 1 := ⟨_, rfl⟩
  have h := h x1 ex1
  refine j_iinc E x1 [(4, .int x1), (0, .ref v0), (2, .ref v2), (3, .ref v3)] dX6_addOffers_148 3 rfl (by rw [ex1]; rfl) (by decide) rfl ?_
  refine j_goto E 88 dX6_addOffers_151 (by decide) ?_
  refine j_sub [1, 2, 3, 0] rfl ?_
  exact hK88 v0 v2 v3 x1 I L kv0 kv2 kv3 h
set_option maxRecDepth 100000 in
def f_X6_addOffers_L88  (Z : jZ) (Q : jI → jL → Prop) : Nat → Nat → Nat → Nat → Int32 → jI → jL → Prop
  | 0 => fun _ _ _ _ _ _ => False
  | n + 1 => fun v0 v2 v3 v4 I L => (((20 : Int32) < v4 → Q I L) ∧ (¬ ((20 : Int32) < v4) → (∀ b3 : Nat, jr Z v0 11 = some b3 → (vp_in v4 21 ∧ (((lg_cmp (L b3 v4.toNatClampNeg) (9223372036854775807 : Int64)) = 0 → f_X6_addOffers_b148 (f_X6_addOffers_L88 Z Q n) Z Q v0 v2 v3 v4 I L) ∧ (¬ ((lg_cmp (L b3 v4.toNatClampNeg) (9223372036854775807 : Int64)) = 0) → (∀ b6 : Nat, jr Z v0 11 = some b6 → (vp_in v4 21 ∧ (f_X11_costIn (L b6 v4.toNatClampNeg) Z I L (fun r13 I10 L11 => (((I10 v0 2) < r13 → f_X6_addOffers_b148 (f_X6_addOffers_L88 Z Q n) Z Q v0 v2 v3 v4 I10 L11) ∧ (¬ ((I10 v0 2) < r13) → (vp_in v4 (jlen Z v2) ∧ (∀ b16 : Nat, jr Z v0 12 = some b16 → (vp_in v4 21 ∧ (vp_in v4 (jlen Z v2) ∧ (∀ I19 : jI, I19 = jpI I10 v2 v4.toNatClampNeg ((I10 v2 v4.toNatClampNeg) + (I10 b16 v4.toNatClampNeg)) → (vp_in v4 (jlen Z v3) ∧ (vp_in v4 (jlen Z v3) ∧ (∀ I22 : jI, I22 = jpI I19 v3 v4.toNatClampNeg ((I19 v3 v4.toNatClampNeg) + (1 : Int32)) → f_X6_addOffers_b148 (f_X6_addOffers_L88 Z Q n) Z Q v0 v2 v3 v4 I22 L11))))))))))))))))))))
set_option maxHeartbeats 4000000 in
set_option maxRecDepth 100000 in
theorem m_X6_addOffers_L88 {G : jG} {Z : jZ} {Q : jI → jL → Prop} (E : jE G cX6_addOffers RX6 w_X6_addOffers 6 none { frames := 4, cells := 0, slots := 0, locals := 112 } (rtV Z Q)) (hZ : SH Z)  : ∀ (n : Nat) (v0 : Nat) (v2 : Nat) (v3 : Nat) (v4 : Int32) (I : jI) (L : jL), jk Z v0 6 → jk Z v2 14 → jk Z v3 14 → f_X6_addOffers_L88  Z Q n v0 v2 v3 v4 I L → jJ G 6 88 [(0, .ref v0), (2, .ref v2), (3, .ref v3), (4, .int v4)] [] Z I L 0 0 := by
  intro n
  induction n with
  | zero => intro v0 v2 v3 v4 I L _ _ _ h; exact h.elim
  | succ n ih =>
    intro v0 v2 v3 v4 I L kv0 kv2 kv3 h
    have h : (((20 : Int32) < v4 → Q I L) ∧ (¬ ((20 : Int32) < v4) → (∀ b3 : Nat, jr Z v0 11 = some b3 → (vp_in v4 21 ∧ (((lg_cmp (L b3 v4.toNatClampNeg) (9223372036854775807 : Int64)) = 0 → f_X6_addOffers_b148 (f_X6_addOffers_L88 Z Q n) Z Q v0 v2 v3 v4 I L) ∧ (¬ ((lg_cmp (L b3 v4.toNatClampNeg) (9223372036854775807 : Int64)) = 0) → (∀ b6 : Nat, jr Z v0 11 = some b6 → (vp_in v4 21 ∧ (f_X11_costIn (L b6 v4.toNatClampNeg) Z I L (fun r13 I10 L11 => (((I10 v0 2) < r13 → f_X6_addOffers_b148 (f_X6_addOffers_L88 Z Q n) Z Q v0 v2 v3 v4 I10 L11) ∧ (¬ ((I10 v0 2) < r13) → (vp_in v4 (jlen Z v2) ∧ (∀ b16 : Nat, jr Z v0 12 = some b16 → (vp_in v4 21 ∧ (vp_in v4 (jlen Z v2) ∧ (∀ I19 : jI, I19 = jpI I10 v2 v4.toNatClampNeg ((I10 v2 v4.toNatClampNeg) + (I10 b16 v4.toNatClampNeg)) → (vp_in v4 (jlen Z v3) ∧ (vp_in v4 (jlen Z v3) ∧ (∀ I22 : jI, I22 = jpI I19 v3 v4.toNatClampNeg ((I19 v3 v4.toNatClampNeg) + (1 : Int32)) → f_X6_addOffers_b148 (f_X6_addOffers_L88 Z Q n) Z Q v0 v2 v3 v4 I22 L11)))))))))))))))))))) := h
    obtain ⟨K88, eK88⟩ : ∃ K : Nat → Nat → Nat → Int32 → jI → jL → Prop, K = f_X6_addOffers_L88  Z Q n := ⟨_, rfl⟩
    have hK88 := ih
    clear eK88 K88
    generalize f_X6_addOffers_L88  Z Q n = K88 at hK88 h
    refine j_iload E dX6_addOffers_88 3 rfl ?_
    refine j_bipush E (v := 20) dX6_addOffers_90 (by decide) ?_
    refine j_icmp_gt E 154 dX6_addOffers_92 (by decide) (fun c2 => ?_) (fun c2 => ?_)
    · have h := h.1 c2
      exact j_return E ⟨rfl, rfl, h⟩ (Nat.zero_le _) (Nat.zero_le _) dX6_addOffers_154
    · have h := h.2 c2
      refine j_aload_n E dX6_addOffers_95 0 rfl ?_
      obtain ⟨b3, eb3, kb3, lb3⟩ := sh_f hZ kv0 (j := 11) (k := 15) (m := 21) rfl
      have h := h b3 eb3
      refine j_getr E 6 11 rfl rfl (by decide) (by decide) (iw iT_6) rfl rfl (tw W_338) kv0 eb3 dX6_addOffers_96 ?_
      refine j_iload E dX6_addOffers_99 3 rfl ?_
      obtain ⟨o4, h⟩ := h
      refine j_lald E kb3 (by rw [lb3]; exact o4) dX6_addOffers_101 ?_
      refine j_ldc2 E (tw W_322) dX6_addOffers_102 ?_
      refine j_lcmp E dX6_addOffers_105 ?_
      refine j_if_eq E 148 dX6_addOffers_106 (by decide) (fun c5 => ?_) (fun c5 => ?_)
      · have h := h.1 c5
        refine j_sub [0, 1, 2, 3] rfl ?_
        exact m_X6_addOffers_b148 E hZ K88 hK88 v0 v2 v3 v4 I L kv0 kv2 kv3 h
      · have h := h.2 c5
        refine j_aload_n E dX6_addOffers_109 0 rfl ?_
        obtain ⟨b6, eb6, kb6, lb6⟩ := sh_f hZ kv0 (j := 11) (k := 15) (m := 21) rfl
        have h := h b6 eb6
        refine j_getr E 6 11 rfl rfl (by decide) (by decide) (iw iT_6) rfl rfl (tw W_338) kv0 eb6 dX6_addOffers_110 ?_
        refine j_iload E dX6_addOffers_113 3 rfl ?_
        obtain ⟨o7, h⟩ := h
        refine j_lald E kb6 (by rw [lb6]; exact o7) dX6_addOffers_115 ?_
        refine j_callSN E [.long (L b6 v4.toNatClampNeg)] [] (c_X11_costIn (gL G) (gD G) (gY G) (L b6 v4.toNatClampNeg) Z I L _ hZ  h) (gwN W_54) rfl (nm_X11_costIn_X6_172) (tw W_28) (tw W_55) fy_X11_costIn ⟨by decide, by decide⟩ rfl rfl (Nat.le_of_ble_eq_true rfl) ⟨Nat.zero_le _, Nat.zero_le _⟩ dX6_addOffers_116 (fun v8 Z9 I10 L11 q12 => ?_)
        obtain ⟨rfl, r13, rfl, h⟩ := q12
        show jJ G 6 119 [(0, .ref v0), (2, .ref v2), (3, .ref v3), (4, .int v4)] [.int r13] Z I10 L11 0 0
        refine j_aload_n E dX6_addOffers_119 0 rfl ?_
        refine j_geti E 6 2 rfl rfl (by decide) (by decide) (iw iT_6) rfl rfl (tw W_309) kv0 dX6_addOffers_120 ?_
        refine j_icmp_gt E 148 dX6_addOffers_123 (by decide) (fun c14 => ?_) (fun c14 => ?_)
        · have h := h.1 c14
          refine j_sub [0, 1, 2, 3] rfl ?_
          exact m_X6_addOffers_b148 E hZ K88 hK88 v0 v2 v3 v4 I10 L11 kv0 kv2 kv3 h
        · have h := h.2 c14
          refine j_aload_n E dX6_addOffers_126 1 rfl ?_
          refine j_iload E dX6_addOffers_127 3 rfl ?_
          refine j_dup2_11 E dX6_addOffers_129 rfl rfl ?_
          obtain ⟨o15, h⟩ := h
          refine j_iald E kv2 o15 dX6_addOffers_130 ?_
          refine j_aload_n E dX6_addOffers_131 0 rfl ?_
          obtain ⟨b16, eb16, kb16, lb16⟩ := sh_f hZ kv0 (j := 12) (k := 14) (m := 21) rfl
          have h := h b16 eb16
          refine j_getr E 6 12 rfl rfl (by decide) (by decide) (iw iT_6) rfl rfl (tw W_339) kv0 eb16 dX6_addOffers_132 ?_
          refine j_iload E dX6_addOffers_135 3 rfl ?_
          obtain ⟨o17, h⟩ := h
          refine j_iald E kb16 (by rw [lb16]; exact o17) dX6_addOffers_137 ?_
          refine j_iadd E dX6_addOffers_138 ?_
          obtain ⟨o18, h⟩ := h
          refine j_iast E kv2 o18 dX6_addOffers_139 ?_
          refine j_nmI (fun I19 eI19 => ?_)
          have h := h I19 eI19
          refine j_aload_n E dX6_addOffers_140 2 rfl ?_
          refine j_iload E dX6_addOffers_141 3 rfl ?_
          refine j_dup2_11 E dX6_addOffers_143 rfl rfl ?_
          obtain ⟨o20, h⟩ := h
          refine j_iald E kv3 o20 dX6_addOffers_144 ?_
          refine j_iconst E (v := 1) dX6_addOffers_145 (by decide) ?_
          refine j_iadd E dX6_addOffers_146 ?_
          obtain ⟨o21, h⟩ := h
          refine j_iast E kv3 o21 dX6_addOffers_147 ?_
          refine j_nmI (fun I22 eI22 => ?_)
          have h := h I22 eI22
          refine j_sub [0, 1, 2, 3] rfl ?_
          exact m_X6_addOffers_b148 E hZ K88 hK88 v0 v2 v3 v4 I22 L11 kv0 kv2 kv3 h
set_option maxRecDepth 100000 in
def f_X6_addOffers_b85  (Z : jZ) (Q : jI → jL → Prop) (v0 : Nat) (v2 : Nat) (v3 : Nat) (I : jI) (L : jL) : Prop := (∃ m88 : Nat, f_X6_addOffers_L88  Z Q m88 v0 v2 v3 (0 : Int32) I L)
set_option maxHeartbeats 4000000 in
set_option maxRecDepth 100000 in
theorem m_X6_addOffers_b85 {G : jG} {Z : jZ} {Q : jI → jL → Prop} (E : jE G cX6_addOffers RX6 w_X6_addOffers 6 none { frames := 4, cells := 0, slots := 0, locals := 112 } (rtV Z Q)) (hZ : SH Z)  (v0 : Nat) (v2 : Nat) (v3 : Nat) (I : jI) (L : jL) (kv0 : jk Z v0 6) (kv2 : jk Z v2 14) (kv3 : jk Z v3 14) (h : f_X6_addOffers_b85  Z Q v0 v2 v3 I L) : jJ G 6 85 [(0, .ref v0), (2, .ref v2), (3, .ref v3)] [] Z I L 0 0 := by
  refine j_iconst E (v := 0) dX6_addOffers_85 (by decide) ?_
  refine j_istore E 4 [(4, .int (0 : Int32)), (0, .ref v0), (2, .ref v2), (3, .ref v3)] dX6_addOffers_86 (by decide) rfl ?_
  obtain ⟨n23, h⟩ := h
  refine j_sub [1, 2, 3, 0] rfl ?_
  exact m_X6_addOffers_L88 E hZ  n23 v0 v2 v3 (0 : Int32) I L kv0 kv2 kv3 h
set_option maxRecDepth 100000 in
def f_X6_addOffers_b79 (K15 : Nat → Int32 → Nat → Nat → Int32 → jI → jL → Prop) (Z : jZ) (Q : jI → jL → Prop) (v0 : Nat) (v1 : Int32) (v2 : Nat) (v3 : Nat) (v4 : Int32) (I : jI) (L : jL) : Prop := (∀ x24 : Int32, x24 = v4 + 1 → K15 v0 v1 v2 v3 x24 I L)
set_option maxHeartbeats 4000000 in
set_option maxRecDepth 100000 in
theorem m_X6_addOffers_b79 {G : jG} {Z : jZ} {Q : jI → jL → Prop} (E : jE G cX6_addOffers RX6 w_X6_addOffers 6 none { frames := 4, cells := 0, slots := 0, locals := 112 } (rtV Z Q)) (hZ : SH Z) (K15 : Nat → Int32 → Nat → Nat → Int32 → jI → jL → Prop) (hK15 : ∀ (v0 : Nat) (v1 : Int32) (v2 : Nat) (v3 : Nat) (v4 : Int32) (I : jI) (L : jL), jk Z v0 6 → jk Z v2 14 → jk Z v3 14 → K15 v0 v1 v2 v3 v4 I L → jJ G 6 15 [(0, .ref v0), (1, .int v1), (2, .ref v2), (3, .ref v3), (4, .int v4)] [] Z I L 0 0) (v0 : Nat) (v1 : Int32) (v2 : Nat) (v3 : Nat) (v4 : Int32) (I : jI) (L : jL) (kv0 : jk Z v0 6) (kv2 : jk Z v2 14) (kv3 : jk Z v3 14) (h : f_X6_addOffers_b79 K15 Z Q v0 v1 v2 v3 v4 I L) : jJ G 6 79 [(0, .ref v0), (1, .int v1), (2, .ref v2), (3, .ref v3), (4, .int v4)] [] Z I L 0 0 := by
  obtain ⟨x24, ex24⟩ : ∃ y : Int32, y = v4 + 1 := ⟨_, rfl⟩
  have h := h x24 ex24
  refine j_iinc E x24 [(4, .int x24), (0, .ref v0), (1, .int v1), (2, .ref v2), (3, .ref v3)] dX6_addOffers_79 4 rfl (by rw [ex24]; rfl) (by decide) rfl ?_
  refine j_goto E 15 dX6_addOffers_82 (by decide) ?_
  refine j_sub [1, 2, 3, 4, 0] rfl ?_
  exact hK15 v0 v1 v2 v3 x24 I L kv0 kv2 kv3 h
set_option maxRecDepth 100000 in
def f_X6_addOffers_L48 (K15 : Nat → Int32 → Nat → Nat → Int32 → jI → jL → Prop) (Z : jZ) (Q : jI → jL → Prop) : Nat → Nat → Int32 → Nat → Nat → Int32 → Int32 → jI → jL → Prop
  | 0 => fun _ _ _ _ _ _ _ _ => False
  | n + 1 => fun v0 v1 v2 v3 v4 v5 I L => ((v1 < v5 → f_X6_addOffers_b79 K15 Z Q v0 v1 v2 v3 v4 I L) ∧ (¬ (v1 < v5) → (∀ b26 : Nat, jr Z v0 6 = some b26 → (vp_in v4 25 ∧ (((I b26 v4.toNatClampNeg) = 0 → f_X6_addOffers_b79 K15 Z Q v0 v1 v2 v3 v4 I L) ∧ (¬ ((I b26 v4.toNatClampNeg) = 0) → (f_X6_offerBy v0 v1 v5 v4 Z I L (fun I31 L32 => (∀ x34 : Int32, x34 = v5 + 1 → (f_X6_addOffers_L48 K15 Z Q n) v0 v1 v2 v3 v4 x34 I31 L32)))))))))
set_option maxHeartbeats 4000000 in
set_option maxRecDepth 100000 in
theorem m_X6_addOffers_L48 {G : jG} {Z : jZ} {Q : jI → jL → Prop} (E : jE G cX6_addOffers RX6 w_X6_addOffers 6 none { frames := 4, cells := 0, slots := 0, locals := 112 } (rtV Z Q)) (hZ : SH Z) (K15 : Nat → Int32 → Nat → Nat → Int32 → jI → jL → Prop) (hK15 : ∀ (v0 : Nat) (v1 : Int32) (v2 : Nat) (v3 : Nat) (v4 : Int32) (I : jI) (L : jL), jk Z v0 6 → jk Z v2 14 → jk Z v3 14 → K15 v0 v1 v2 v3 v4 I L → jJ G 6 15 [(0, .ref v0), (1, .int v1), (2, .ref v2), (3, .ref v3), (4, .int v4)] [] Z I L 0 0) : ∀ (n : Nat) (v0 : Nat) (v1 : Int32) (v2 : Nat) (v3 : Nat) (v4 : Int32) (v5 : Int32) (I : jI) (L : jL), jk Z v0 6 → jk Z v2 14 → jk Z v3 14 → f_X6_addOffers_L48 K15 Z Q n v0 v1 v2 v3 v4 v5 I L → jJ G 6 48 [(0, .ref v0), (1, .int v1), (2, .ref v2), (3, .ref v3), (4, .int v4), (5, .int v5)] [] Z I L 0 0 := by
  intro n
  induction n with
  | zero => intro v0 v1 v2 v3 v4 v5 I L _ _ _ h; exact h.elim
  | succ n ih =>
    intro v0 v1 v2 v3 v4 v5 I L kv0 kv2 kv3 h
    have h : ((v1 < v5 → f_X6_addOffers_b79 K15 Z Q v0 v1 v2 v3 v4 I L) ∧ (¬ (v1 < v5) → (∀ b26 : Nat, jr Z v0 6 = some b26 → (vp_in v4 25 ∧ (((I b26 v4.toNatClampNeg) = 0 → f_X6_addOffers_b79 K15 Z Q v0 v1 v2 v3 v4 I L) ∧ (¬ ((I b26 v4.toNatClampNeg) = 0) → (f_X6_offerBy v0 v1 v5 v4 Z I L (fun I31 L32 => (∀ x34 : Int32, x34 = v5 + 1 → (f_X6_addOffers_L48 K15 Z Q n) v0 v1 v2 v3 v4 x34 I31 L32))))))))) := h
    obtain ⟨K48, eK48⟩ : ∃ K : Nat → Int32 → Nat → Nat → Int32 → Int32 → jI → jL → Prop, K = f_X6_addOffers_L48 K15 Z Q n := ⟨_, rfl⟩
    have hK48 := ih
    clear eK48 K48
    generalize f_X6_addOffers_L48 K15 Z Q n = K48 at hK48 h
    refine j_iload E dX6_addOffers_48 5 rfl ?_
    refine j_iload_n E dX6_addOffers_50 1 rfl ?_
    refine j_icmp_gt E 79 dX6_addOffers_51 (by decide) (fun c25 => ?_) (fun c25 => ?_)
    · have h := h.1 c25
      refine j_sub [0, 1, 2, 3, 4] rfl ?_
      exact m_X6_addOffers_b79 E hZ K15 hK15 v0 v1 v2 v3 v4 I L kv0 kv2 kv3 h
    · have h := h.2 c25
      refine j_aload_n E dX6_addOffers_54 0 rfl ?_
      obtain ⟨b26, eb26, kb26, lb26⟩ := sh_f hZ kv0 (j := 6) (k := 16) (m := 25) rfl
      have h := h b26 eb26
      refine j_getr E 6 6 rfl rfl (by decide) (by decide) (iw iT_6) rfl rfl (tw W_47) kv0 eb26 dX6_addOffers_55 ?_
      refine j_iload E dX6_addOffers_58 4 rfl ?_
      obtain ⟨o27, h⟩ := h
      refine j_zald E kb26 (by rw [lb26]; exact o27) dX6_addOffers_60 ?_
      refine j_if_eq E 79 dX6_addOffers_61 (by decide) (fun c28 => ?_) (fun c28 => ?_)
      · have h := h.1 c28
        refine j_sub [0, 1, 2, 3, 4] rfl ?_
        exact m_X6_addOffers_b79 E hZ K15 hK15 v0 v1 v2 v3 v4 I L kv0 kv2 kv3 h
      · have h := h.2 c28
        refine j_aload_n E dX6_addOffers_64 0 rfl ?_
        refine j_iload_n E dX6_addOffers_65 1 rfl ?_
        refine j_iload E dX6_addOffers_66 5 rfl ?_
        refine j_iload E dX6_addOffers_68 4 rfl ?_
        refine j_callV E [.int v1, .int v5, .int v4] [] (c_X6_offerBy (gL G) (gD G) (gY G) v0 v1 v5 v4 Z I L _ hZ kv0 h) (gwV W_347 W_348 W_349 W_21 W_346) rfl ⟨rfl, fy_X6_offerBy⟩ ⟨by decide, by decide⟩ (c := 6) rfl (by decide) kv0 rfl rfl (Nat.le_of_ble_eq_true rfl) ⟨Nat.zero_le _, Nat.zero_le _⟩ dX6_addOffers_70 (fun v29 Z30 I31 L32 q33 => ?_)
        obtain ⟨rfl, rfl, h⟩ := q33
        show jJ G 6 73 [(0, .ref v0), (1, .int v1), (2, .ref v2), (3, .ref v3), (4, .int v4), (5, .int v5)] [] Z I31 L32 0 0
        obtain ⟨x34, ex34⟩ : ∃ y : Int32, y = v5 + 1 := ⟨_, rfl⟩
        have h := h x34 ex34
        refine j_iinc E x34 [(5, .int x34), (0, .ref v0), (1, .int v1), (2, .ref v2), (3, .ref v3), (4, .int v4)] dX6_addOffers_73 5 rfl (by rw [ex34]; rfl) (by decide) rfl ?_
        refine j_goto E 48 dX6_addOffers_76 (by decide) ?_
        refine j_sub [1, 2, 3, 4, 5, 0] rfl ?_
        exact hK48 v0 v1 v2 v3 v4 x34 I31 L32 kv0 kv2 kv3 h
set_option maxRecDepth 100000 in
def f_X6_addOffers_L15  (Z : jZ) (Q : jI → jL → Prop) : Nat → Nat → Int32 → Nat → Nat → Int32 → jI → jL → Prop
  | 0 => fun _ _ _ _ _ _ _ => False
  | n + 1 => fun v0 v1 v2 v3 v4 I L => (((I v0 15) < v4 → f_X6_addOffers_b85  Z Q v0 v2 v3 I L) ∧ (¬ ((I v0 15) < v4) → (((v1 + (I v0 3)) < v4 → f_X6_addOffers_b85  Z Q v0 v2 v3 I L) ∧ (¬ ((v1 + (I v0 3)) < v4) → (∀ x37 : Int32, x37 = (if (0 : Int32) < (v4 - (I v0 3)) then (v4 - (I v0 3)) else (0 : Int32)) → (∃ m48 : Nat, f_X6_addOffers_L48 (f_X6_addOffers_L15 Z Q n) Z Q m48 v0 v1 v2 v3 v4 x37 I L))))))
set_option maxHeartbeats 4000000 in
set_option maxRecDepth 100000 in
theorem m_X6_addOffers_L15 {G : jG} {Z : jZ} {Q : jI → jL → Prop} (E : jE G cX6_addOffers RX6 w_X6_addOffers 6 none { frames := 4, cells := 0, slots := 0, locals := 112 } (rtV Z Q)) (hZ : SH Z)  : ∀ (n : Nat) (v0 : Nat) (v1 : Int32) (v2 : Nat) (v3 : Nat) (v4 : Int32) (I : jI) (L : jL), jk Z v0 6 → jk Z v2 14 → jk Z v3 14 → f_X6_addOffers_L15  Z Q n v0 v1 v2 v3 v4 I L → jJ G 6 15 [(0, .ref v0), (1, .int v1), (2, .ref v2), (3, .ref v3), (4, .int v4)] [] Z I L 0 0 := by
  intro n
  induction n with
  | zero => intro v0 v1 v2 v3 v4 I L _ _ _ h; exact h.elim
  | succ n ih =>
    intro v0 v1 v2 v3 v4 I L kv0 kv2 kv3 h
    have h : (((I v0 15) < v4 → f_X6_addOffers_b85  Z Q v0 v2 v3 I L) ∧ (¬ ((I v0 15) < v4) → (((v1 + (I v0 3)) < v4 → f_X6_addOffers_b85  Z Q v0 v2 v3 I L) ∧ (¬ ((v1 + (I v0 3)) < v4) → (∀ x37 : Int32, x37 = (if (0 : Int32) < (v4 - (I v0 3)) then (v4 - (I v0 3)) else (0 : Int32)) → (∃ m48 : Nat, f_X6_addOffers_L48 (f_X6_addOffers_L15 Z Q n) Z Q m48 v0 v1 v2 v3 v4 x37 I L)))))) := h
    obtain ⟨K15, eK15⟩ : ∃ K : Nat → Int32 → Nat → Nat → Int32 → jI → jL → Prop, K = f_X6_addOffers_L15  Z Q n := ⟨_, rfl⟩
    have hK15 := ih
    clear eK15 K15
    generalize f_X6_addOffers_L15  Z Q n = K15 at hK15 h
    refine j_iload E dX6_addOffers_15 4 rfl ?_
    refine j_aload_n E dX6_addOffers_17 0 rfl ?_
    refine j_geti E 6 15 rfl rfl (by decide) (by decide) (iw iT_6) rfl rfl (tw W_290) kv0 dX6_addOffers_18 ?_
    refine j_icmp_gt E 85 dX6_addOffers_21 (by decide) (fun c35 => ?_) (fun c35 => ?_)
    · have h := h.1 c35
      refine j_sub [0, 2, 3] rfl ?_
      exact m_X6_addOffers_b85 E hZ  v0 v2 v3 I L kv0 kv2 kv3 h
    · have h := h.2 c35
      refine j_iload E dX6_addOffers_24 4 rfl ?_
      refine j_iload_n E dX6_addOffers_26 1 rfl ?_
      refine j_aload_n E dX6_addOffers_27 0 rfl ?_
      refine j_geti E 6 3 rfl rfl (by decide) (by decide) (iw iT_6) rfl rfl (tw W_46) kv0 dX6_addOffers_28 ?_
      refine j_iadd E dX6_addOffers_31 ?_
      refine j_icmp_gt E 85 dX6_addOffers_32 (by decide) (fun c36 => ?_) (fun c36 => ?_)
      · have h := h.1 c36
        refine j_sub [0, 2, 3] rfl ?_
        exact m_X6_addOffers_b85 E hZ  v0 v2 v3 I L kv0 kv2 kv3 h
      · have h := h.2 c36
        refine j_iconst E (v := 0) dX6_addOffers_35 (by decide) ?_
        refine j_iload E dX6_addOffers_36 4 rfl ?_
        refine j_aload_n E dX6_addOffers_38 0 rfl ?_
        refine j_geti E 6 3 rfl rfl (by decide) (by decide) (iw iT_6) rfl rfl (tw W_46) kv0 dX6_addOffers_39 ?_
        refine j_isub E dX6_addOffers_42 ?_
        refine j_max E (tw W_291) (tw W_138) (tw W_119) (tw W_139) (by decide) (Nat.le_of_ble_eq_true rfl) (Nat.zero_le _) (Nat.zero_le _) dX6_addOffers_43 ?_
        refine j_topi (fun x37 ex37 => ?_)
        have h := h x37 ex37
        refine j_istore E 5 [(5, .int x37), (0, .ref v0), (1, .int v1), (2, .ref v2), (3, .ref v3), (4, .int v4)] dX6_addOffers_46 (by decide) rfl ?_
        obtain ⟨n38, h⟩ := h
        refine j_sub [1, 2, 3, 4, 5, 0] rfl ?_
        exact m_X6_addOffers_L48 E hZ K15 hK15 n38 v0 v1 v2 v3 v4 x37 I L kv0 kv2 kv3 h
set_option maxRecDepth 100000 in
def f_X6_addOffers (v0 : Nat) (v1 : Int32) (v2 : Nat) (v3 : Nat) (Z : jZ) (I : jI) (L : jL) (Q : jI → jL → Prop) : Prop := (∀ b39 : Nat, jr Z v0 11 = some b39 → (f_J7_fill_d0a16 b39 (9223372036854775807 : Int64) Z I L (fun I42 L43 => (∀ x45 : Int32, x45 = (v1 + (1 : Int32)) → (∃ m15 : Nat, f_X6_addOffers_L15  Z Q m15 v0 v1 v2 v3 x45 I42 L43)))))
set_option maxHeartbeats 4000000 in
set_option maxRecDepth 100000 in
theorem c_X6_addOffers (l : Launch) (D : va_G) (cy : jC) (v0 : Nat) (v1 : Int32) (v2 : Nat) (v3 : Nat) (Z : jZ) (I : jI) (L : jL) (Q : jI → jL → Prop) (hZ : SH Z) (kv0 : jk Z v0 6) (kv2 : jk Z v2 14) (kv3 : jk Z v3 14) (h : f_X6_addOffers v0 v1 v2 v3 Z I L Q) : jCt l yX6_addOffers w_X6_addOffers { frames := 4, cells := 0, slots := 0, locals := 112 } D cy [.ref v0, .int v1, .ref v2, .ref v3] Z I L (rtV Z Q) := by
  refine jCt_of (cc := cX6_addOffers) (maxL := 6) (ret := none) (by decide +kernel) rfl (Nat.le_of_ble_eq_true rfl) ?_
  intro G eD eY eL E
  subst eD; subst eY; subst eL
  have E : jE G cX6_addOffers RX6 w_X6_addOffers 6 none { frames := 4, cells := 0, slots := 0, locals := 112 } (rtV Z Q) := E
  show jJ G 6 0 [(0, .ref v0), (1, .int v1), (2, .ref v2), (3, .ref v3)] [] Z I L 0 0
  refine j_aload_n E dX6_addOffers_0 0 rfl ?_
  obtain ⟨b39, eb39, kb39, lb39⟩ := sh_f hZ kv0 (j := 11) (k := 15) (m := 21) rfl
  have h := h b39 eb39
  refine j_getr E 6 11 rfl rfl (by decide) (by decide) (iw iT_6) rfl rfl (tw W_338) kv0 eb39 dX6_addOffers_1 ?_
  refine j_ldc2 E (tw W_322) dX6_addOffers_4 ?_
  refine j_callS E [.ref b39, .long (9223372036854775807 : Int64)] [] (c_J7_fill_d0a16 (gL G) (gD G) (gY G) b39 (9223372036854775807 : Int64) Z I L _ hZ kb39 h) (gwS W_350 W_92 W_8 W_90) rfl fy_J7_fill_d0a16 ⟨by decide, by decide⟩ rfl rfl (Nat.le_of_ble_eq_true rfl) ⟨Nat.zero_le _, Nat.zero_le _⟩ dX6_addOffers_7 (fun v40 Z41 I42 L43 q44 => ?_)
  obtain ⟨rfl, rfl, h⟩ := q44
  show jJ G 6 10 [(0, .ref v0), (1, .int v1), (2, .ref v2), (3, .ref v3)] [] Z I42 L43 0 0
  refine j_iload_n E dX6_addOffers_10 1 rfl ?_
  refine j_iconst E (v := 1) dX6_addOffers_11 (by decide) ?_
  refine j_iadd E dX6_addOffers_12 ?_
  refine j_topi (fun x45 ex45 => ?_)
  have h := h x45 ex45
  refine j_istore E 4 [(4, .int x45), (0, .ref v0), (1, .int v1), (2, .ref v2), (3, .ref v3)] dX6_addOffers_13 (by decide) rfl ?_
  obtain ⟨n46, h⟩ := h
  refine j_sub [1, 2, 3, 4, 0] rfl ?_
  exact m_X6_addOffers_L15 E hZ  n46 v0 v1 v2 v3 x45 I42 L43 kv0 kv2 kv3 h
set_option maxRecDepth 100000 in
def f_X8_build (v0 : Nat) (v1 : Nat) (Z : jZ) (I : jI) (L : jL) (Q : jI → jL → Prop) : Prop := (∀ I1 : jI, I1 = jpI I v0 9 (I v1 5) → (∀ b2 : Nat, jr Z v1 0 = some b2 → (∀ b3 : Nat, jr Z v0 0 = some b3 → ((¬ (0 : Int32) < 0 ∧ ¬ (0 : Int32) < 0 ∧ ¬ (24 : Int32) < 0 ∧ (0 : Int32).toNatClampNeg + (24 : Int32).toNatClampNeg ≤ 24 ∧ (0 : Int32).toNatClampNeg + (24 : Int32).toNatClampNeg ≤ 24) ∧ (∀ I5 : jI, I5 = va_up I1 b3 (va_cpy (I1 b2) (I1 b3) (0 : Int32).toNatClampNeg (0 : Int32).toNatClampNeg (24 : Int32).toNatClampNeg) → (∀ b6 : Nat, jr Z v1 1 = some b6 → (∀ b7 : Nat, jr Z v0 1 = some b7 → ((¬ (0 : Int32) < 0 ∧ ¬ (0 : Int32) < 0 ∧ ¬ (24 : Int32) < 0 ∧ (0 : Int32).toNatClampNeg + (24 : Int32).toNatClampNeg ≤ 24 ∧ (0 : Int32).toNatClampNeg + (24 : Int32).toNatClampNeg ≤ 24) ∧ (∀ I9 : jI, I9 = va_up I5 b7 (va_cpy (I5 b6) (I5 b7) (0 : Int32).toNatClampNeg (0 : Int32).toNatClampNeg (24 : Int32).toNatClampNeg) → (∀ b10 : Nat, jr Z v1 2 = some b10 → (∀ b11 : Nat, jr Z v0 2 = some b11 → ((¬ (0 : Int32) < 0 ∧ ¬ (0 : Int32) < 0 ∧ ¬ (24 : Int32) < 0 ∧ (0 : Int32).toNatClampNeg + (24 : Int32).toNatClampNeg ≤ 24 ∧ (0 : Int32).toNatClampNeg + (24 : Int32).toNatClampNeg ≤ 24) ∧ (∀ I13 : jI, I13 = va_up I9 b11 (va_cpy (I9 b10) (I9 b11) (0 : Int32).toNatClampNeg (0 : Int32).toNatClampNeg (24 : Int32).toNatClampNeg) → (∀ b14 : Nat, jr Z v1 3 = some b14 → (∀ b15 : Nat, jr Z v0 3 = some b15 → ((¬ (0 : Int32) < 0 ∧ ¬ (0 : Int32) < 0 ∧ ¬ (24 : Int32) < 0 ∧ (0 : Int32).toNatClampNeg + (24 : Int32).toNatClampNeg ≤ 24 ∧ (0 : Int32).toNatClampNeg + (24 : Int32).toNatClampNeg ≤ 24) ∧ (∀ I17 : jI, I17 = va_up I13 b15 (va_cpy (I13 b14) (I13 b15) (0 : Int32).toNatClampNeg (0 : Int32).toNatClampNeg (24 : Int32).toNatClampNeg) → (∀ b18 : Nat, jr Z v0 4 = some b18 → (∀ b19 : Nat, jr Z v1 4 = some b19 → (f_X4_deal b18 b19 (I17 v0 9) Z I17 L (fun I22 L23 => Q I22 L23)))))))))))))))))))))
set_option maxHeartbeats 4000000 in
set_option maxRecDepth 100000 in
theorem c_X8_build (l : Launch) (D : va_G) (cy : jC) (v0 : Nat) (v1 : Nat) (Z : jZ) (I : jI) (L : jL) (Q : jI → jL → Prop) (hZ : SH Z) (kv0 : jk Z v0 8) (kv1 : jk Z v1 9) (h : f_X8_build v0 v1 Z I L Q) : jCt l yX8_build w_X8_build { frames := 3, cells := 0, slots := 0, locals := 67 } D cy [.ref v0, .ref v1] Z I L (rtV Z Q) := by
  refine jCt_of (cc := cX8_build) (maxL := 2) (ret := none) (by decide +kernel) rfl (Nat.le_of_ble_eq_true rfl) ?_
  intro G eD eY eL E
  subst eD; subst eY; subst eL
  have E : jE G cX8_build RX8 w_X8_build 2 none { frames := 3, cells := 0, slots := 0, locals := 67 } (rtV Z Q) := E
  show jJ G 2 0 [(0, .ref v0), (1, .ref v1)] [] Z I L 0 0
  refine j_aload_n E dX8_build_0 0 rfl ?_
  refine j_aload_n E dX8_build_1 1 rfl ?_
  refine j_getiN E 9 5 rfl rfl (by decide) (by decide) (iw iT_9) rfl rfl (nw_9_5_X8_51) kv1 dX8_build_2 ?_
  refine j_puti E 8 9 rfl rfl (by decide) (by decide) (iw iT_8) tyX8_ok nmX8 rfl rfl (tw W_244) rfl rfl rfl kv0 dX8_build_5 ?_
  refine j_nmI (fun I1 eI1 => ?_)
  have h := h I1 eI1
  refine j_aload_n E dX8_build_8 1 rfl ?_
  obtain ⟨b2, eb2, kb2, lb2⟩ := sh_f hZ kv1 (j := 0) (k := 14) (m := 24) rfl
  have h := h b2 eb2
  refine j_getrN E 9 0 rfl rfl (by decide) (by decide) (iw iT_9) rfl rfl (nw_9_0_X8_54) kv1 eb2 dX8_build_9 ?_
  refine j_iconst E (v := 0) dX8_build_12 (by decide) ?_
  refine j_aload_n E dX8_build_13 0 rfl ?_
  obtain ⟨b3, eb3, kb3, lb3⟩ := sh_f hZ kv0 (j := 0) (k := 14) (m := 24) rfl
  have h := h b3 eb3
  refine j_getr E 8 0 rfl rfl (by decide) (by decide) (iw iT_8) rfl rfl (tw W_253) kv0 eb3 dX8_build_14 ?_
  refine j_iconst E (v := 0) dX8_build_17 (by decide) ?_
  refine j_bipush E (v := 24) dX8_build_18 (by decide) ?_
  obtain ⟨o4, h⟩ := h
  refine j_copyi E (tw W_351) (tw W_146) (tw W_147) (tw W_148) kb2 kb3 o4.1 o4.2.1 o4.2.2.1 (by rw [lb2]; exact o4.2.2.2.1) (by rw [lb3]; exact o4.2.2.2.2) (by decide) (Nat.le_of_ble_eq_true rfl) dX8_build_20 ?_
  refine j_nmI (fun I5 eI5 => ?_)
  have h := h I5 eI5
  refine j_aload_n E dX8_build_23 1 rfl ?_
  obtain ⟨b6, eb6, kb6, lb6⟩ := sh_f hZ kv1 (j := 1) (k := 14) (m := 24) rfl
  have h := h b6 eb6
  refine j_getrN E 9 1 rfl rfl (by decide) (by decide) (iw iT_9) rfl rfl (nw_9_1_X8_61) kv1 eb6 dX8_build_24 ?_
  refine j_iconst E (v := 0) dX8_build_27 (by decide) ?_
  refine j_aload_n E dX8_build_28 0 rfl ?_
  obtain ⟨b7, eb7, kb7, lb7⟩ := sh_f hZ kv0 (j := 1) (k := 14) (m := 24) rfl
  have h := h b7 eb7
  refine j_getr E 8 1 rfl rfl (by decide) (by decide) (iw iT_8) rfl rfl (tw W_254) kv0 eb7 dX8_build_29 ?_
  refine j_iconst E (v := 0) dX8_build_32 (by decide) ?_
  refine j_bipush E (v := 24) dX8_build_33 (by decide) ?_
  obtain ⟨o8, h⟩ := h
  refine j_copyi E (tw W_351) (tw W_146) (tw W_147) (tw W_148) kb6 kb7 o8.1 o8.2.1 o8.2.2.1 (by rw [lb6]; exact o8.2.2.2.1) (by rw [lb7]; exact o8.2.2.2.2) (by decide) (Nat.le_of_ble_eq_true rfl) dX8_build_35 ?_
  refine j_nmI (fun I9 eI9 => ?_)
  have h := h I9 eI9
  refine j_aload_n E dX8_build_38 1 rfl ?_
  obtain ⟨b10, eb10, kb10, lb10⟩ := sh_f hZ kv1 (j := 2) (k := 14) (m := 24) rfl
  have h := h b10 eb10
  refine j_getrN E 9 2 rfl rfl (by decide) (by decide) (iw iT_9) rfl rfl (nw_9_2_X8_62) kv1 eb10 dX8_build_39 ?_
  refine j_iconst E (v := 0) dX8_build_42 (by decide) ?_
  refine j_aload_n E dX8_build_43 0 rfl ?_
  obtain ⟨b11, eb11, kb11, lb11⟩ := sh_f hZ kv0 (j := 2) (k := 14) (m := 24) rfl
  have h := h b11 eb11
  refine j_getr E 8 2 rfl rfl (by decide) (by decide) (iw iT_8) rfl rfl (tw W_252) kv0 eb11 dX8_build_44 ?_
  refine j_iconst E (v := 0) dX8_build_47 (by decide) ?_
  refine j_bipush E (v := 24) dX8_build_48 (by decide) ?_
  obtain ⟨o12, h⟩ := h
  refine j_copyi E (tw W_351) (tw W_146) (tw W_147) (tw W_148) kb10 kb11 o12.1 o12.2.1 o12.2.2.1 (by rw [lb10]; exact o12.2.2.2.1) (by rw [lb11]; exact o12.2.2.2.2) (by decide) (Nat.le_of_ble_eq_true rfl) dX8_build_50 ?_
  refine j_nmI (fun I13 eI13 => ?_)
  have h := h I13 eI13
  refine j_aload_n E dX8_build_53 1 rfl ?_
  obtain ⟨b14, eb14, kb14, lb14⟩ := sh_f hZ kv1 (j := 3) (k := 14) (m := 24) rfl
  have h := h b14 eb14
  refine j_getrN E 9 3 rfl rfl (by decide) (by decide) (iw iT_9) rfl rfl (nw_9_3_X8_63) kv1 eb14 dX8_build_54 ?_
  refine j_iconst E (v := 0) dX8_build_57 (by decide) ?_
  refine j_aload_n E dX8_build_58 0 rfl ?_
  obtain ⟨b15, eb15, kb15, lb15⟩ := sh_f hZ kv0 (j := 3) (k := 14) (m := 24) rfl
  have h := h b15 eb15
  refine j_getr E 8 3 rfl rfl (by decide) (by decide) (iw iT_8) rfl rfl (tw W_255) kv0 eb15 dX8_build_59 ?_
  refine j_iconst E (v := 0) dX8_build_62 (by decide) ?_
  refine j_bipush E (v := 24) dX8_build_63 (by decide) ?_
  obtain ⟨o16, h⟩ := h
  refine j_copyi E (tw W_351) (tw W_146) (tw W_147) (tw W_148) kb14 kb15 o16.1 o16.2.1 o16.2.2.1 (by rw [lb14]; exact o16.2.2.2.1) (by rw [lb15]; exact o16.2.2.2.2) (by decide) (Nat.le_of_ble_eq_true rfl) dX8_build_65 ?_
  refine j_nmI (fun I17 eI17 => ?_)
  have h := h I17 eI17
  refine j_aload_n E dX8_build_68 0 rfl ?_
  obtain ⟨b18, eb18, kb18⟩ := sh_o hZ kv0 (j := 4) (k := 4) rfl
  have h := h b18 eb18
  refine j_getr E 8 4 rfl rfl (by decide) (by decide) (iw iT_8) rfl rfl (tw W_256) kv0 eb18 dX8_build_69 ?_
  refine j_aload_n E dX8_build_72 1 rfl ?_
  obtain ⟨b19, eb19, kb19, lb19⟩ := sh_f hZ kv1 (j := 4) (k := 14) (m := 24) rfl
  have h := h b19 eb19
  refine j_getrN E 9 4 rfl rfl (by decide) (by decide) (iw iT_9) rfl rfl (nw_9_4_X8_64) kv1 eb19 dX8_build_73 ?_
  refine j_aload_n E dX8_build_76 0 rfl ?_
  refine j_geti E 8 9 rfl rfl (by decide) (by decide) (iw iT_8) rfl rfl (tw W_244) kv0 dX8_build_77 ?_
  refine j_callV E [.ref b19, .int (I17 v0 9)] [] (c_X4_deal (gL G) (gD G) (gY G) b18 b19 (I17 v0 9) Z I17 L _ hZ kb18 kb19 h) (gwV W_353 W_354 W_355 W_154 W_352) rfl ⟨rfl, fy_X4_deal⟩ ⟨by decide, by decide⟩ (c := 4) rfl (by decide) kb18 rfl rfl (Nat.le_of_ble_eq_true rfl) ⟨Nat.zero_le _, Nat.zero_le _⟩ dX8_build_80 (fun v20 Z21 I22 L23 q24 => ?_)
  obtain ⟨rfl, rfl, h⟩ := q24
  show jJ G 2 83 [(0, .ref v0), (1, .ref v1)] [] Z I22 L23 0 0
  exact j_return E ⟨rfl, rfl, h⟩ (Nat.zero_le _) (Nat.zero_le _) dX8_build_83
set_option maxRecDepth 100000 in
def f_X8_sumOfAsks_L4  (Z : jZ) (Q : Int32 → jI → jL → Prop) : Nat → Nat → Int32 → Int32 → jI → jL → Prop
  | 0 => fun _ _ _ _ _ => False
  | n + 1 => fun v0 v1 v2 I L => (((I v0 9) ≤ v2 → Q v1 I L) ∧ (¬ ((I v0 9) ≤ v2) → (∀ b2 : Nat, jr Z v0 2 = some b2 → (vp_in v2 24 ∧ (∀ x4 : Int32, x4 = (v1 + (I b2 v2.toNatClampNeg)) → (∀ x5 : Int32, x5 = v2 + 1 → (f_X8_sumOfAsks_L4 Z Q n) v0 x4 x5 I L))))))
set_option maxHeartbeats 4000000 in
set_option maxRecDepth 100000 in
theorem m_X8_sumOfAsks_L4 {G : jG} {Z : jZ} {Q : Int32 → jI → jL → Prop} (E : jE G cX8_sumOfAsks RX8 w_X8_sumOfAsks 3 (some .int) { frames := 0, cells := 0, slots := 0, locals := 0 } (rtI Z Q)) (hZ : SH Z)  : ∀ (n : Nat) (v0 : Nat) (v1 : Int32) (v2 : Int32) (I : jI) (L : jL), jk Z v0 8 → f_X8_sumOfAsks_L4  Z Q n v0 v1 v2 I L → jJ G 3 4 [(0, .ref v0), (1, .int v1), (2, .int v2)] [] Z I L 0 0 := by
  intro n
  induction n with
  | zero => intro v0 v1 v2 I L _ h; exact h.elim
  | succ n ih =>
    intro v0 v1 v2 I L kv0 h
    have h : (((I v0 9) ≤ v2 → Q v1 I L) ∧ (¬ ((I v0 9) ≤ v2) → (∀ b2 : Nat, jr Z v0 2 = some b2 → (vp_in v2 24 ∧ (∀ x4 : Int32, x4 = (v1 + (I b2 v2.toNatClampNeg)) → (∀ x5 : Int32, x5 = v2 + 1 → (f_X8_sumOfAsks_L4 Z Q n) v0 x4 x5 I L)))))) := h
    obtain ⟨K4, eK4⟩ : ∃ K : Nat → Int32 → Int32 → jI → jL → Prop, K = f_X8_sumOfAsks_L4  Z Q n := ⟨_, rfl⟩
    have hK4 := ih
    clear eK4 K4
    generalize f_X8_sumOfAsks_L4  Z Q n = K4 at hK4 h
    refine j_iload_n E dX8_sumOfAsks_4 2 rfl ?_
    refine j_aload_n E dX8_sumOfAsks_5 0 rfl ?_
    refine j_geti E 8 9 rfl rfl (by decide) (by decide) (iw iT_8) rfl rfl (tw W_244) kv0 dX8_sumOfAsks_6 ?_
    refine j_icmp_ge E 27 dX8_sumOfAsks_9 (by decide) (fun c1 => ?_) (fun c1 => ?_)
    · have h := h.1 c1
      refine j_iload_n E dX8_sumOfAsks_27 1 rfl ?_
      exact j_ireturn E ⟨rfl, _, rfl, h⟩ (Nat.zero_le _) (Nat.zero_le _) dX8_sumOfAsks_28
    · have h := h.2 c1
      refine j_iload_n E dX8_sumOfAsks_12 1 rfl ?_
      refine j_aload_n E dX8_sumOfAsks_13 0 rfl ?_
      obtain ⟨b2, eb2, kb2, lb2⟩ := sh_f hZ kv0 (j := 2) (k := 14) (m := 24) rfl
      have h := h b2 eb2
      refine j_getr E 8 2 rfl rfl (by decide) (by decide) (iw iT_8) rfl rfl (tw W_252) kv0 eb2 dX8_sumOfAsks_14 ?_
      refine j_iload_n E dX8_sumOfAsks_17 2 rfl ?_
      obtain ⟨o3, h⟩ := h
      refine j_iald E kb2 (by rw [lb2]; exact o3) dX8_sumOfAsks_18 ?_
      refine j_iadd E dX8_sumOfAsks_19 ?_
      refine j_topi (fun x4 ex4 => ?_)
      have h := h x4 ex4
      refine j_istore_n E 1 [(1, .int x4), (0, .ref v0), (2, .int v2)] dX8_sumOfAsks_20 rfl (by decide) rfl ?_
      obtain ⟨x5, ex5⟩ : ∃ y : Int32, y = v2 + 1 := ⟨_, rfl⟩
      have h := h x5 ex5
      refine j_iinc E x5 [(2, .int x5), (1, .int x4), (0, .ref v0)] dX8_sumOfAsks_21 2 rfl (by rw [ex5]; rfl) (by decide) rfl ?_
      refine j_goto E 4 dX8_sumOfAsks_24 (by decide) ?_
      refine j_sub [2, 1, 0] rfl ?_
      exact hK4 v0 x4 x5 I L kv0 h
set_option maxRecDepth 100000 in
def f_X8_sumOfAsks (v0 : Nat) (Z : jZ) (I : jI) (L : jL) (Q : Int32 → jI → jL → Prop) : Prop := (∃ m4 : Nat, f_X8_sumOfAsks_L4  Z Q m4 v0 (0 : Int32) (0 : Int32) I L)
set_option maxHeartbeats 4000000 in
set_option maxRecDepth 100000 in
theorem c_X8_sumOfAsks (l : Launch) (D : va_G) (cy : jC) (v0 : Nat) (Z : jZ) (I : jI) (L : jL) (Q : Int32 → jI → jL → Prop) (hZ : SH Z) (kv0 : jk Z v0 8) (h : f_X8_sumOfAsks v0 Z I L Q) : jCt l yX8_sumOfAsks w_X8_sumOfAsks { frames := 0, cells := 0, slots := 0, locals := 0 } D cy [.ref v0] Z I L (rtI Z Q) := by
  refine jCt_of (cc := cX8_sumOfAsks) (maxL := 3) (ret := (some .int)) (by decide +kernel) rfl (Nat.le_of_ble_eq_true rfl) ?_
  intro G eD eY eL E
  subst eD; subst eY; subst eL
  have E : jE G cX8_sumOfAsks RX8 w_X8_sumOfAsks 3 (some .int) { frames := 0, cells := 0, slots := 0, locals := 0 } (rtI Z Q) := E
  show jJ G 3 0 [(0, .ref v0)] [] Z I L 0 0
  refine j_iconst E (v := 0) dX8_sumOfAsks_0 (by decide) ?_
  refine j_istore_n E 1 [(1, .int (0 : Int32)), (0, .ref v0)] dX8_sumOfAsks_1 rfl (by decide) rfl ?_
  refine j_iconst E (v := 0) dX8_sumOfAsks_2 (by decide) ?_
  refine j_istore_n E 2 [(2, .int (0 : Int32)), (1, .int (0 : Int32)), (0, .ref v0)] dX8_sumOfAsks_3 rfl (by decide) rfl ?_
  obtain ⟨n6, h⟩ := h
  refine j_sub [2, 1, 0] rfl ?_
  exact m_X8_sumOfAsks_L4 E hZ  n6 v0 (0 : Int32) (0 : Int32) I L kv0 h
set_option maxRecDepth 100000 in
def f_X8_quarrel_b83  (Z : jZ) (Q : jI → jL → Prop) (s0 : Nat) (s1 : Int32) (s2 : Int32) (I : jI) (L : jL) : Prop := (vp_in s1 (jlen Z s0) ∧ (∀ I2 : jI, I2 = jpI I s0 s1.toNatClampNeg s2 → Q I2 L))
set_option maxHeartbeats 4000000 in
set_option maxRecDepth 100000 in
theorem m_X8_quarrel_b83 {G : jG} {Z : jZ} {Q : jI → jL → Prop} (E : jE G cX8_quarrel RX8 w_X8_quarrel 4 none { frames := 1, cells := 0, slots := 0, locals := 20 } (rtV Z Q)) (hZ : SH Z)  (s0 : Nat) (s1 : Int32) (s2 : Int32) (I : jI) (L : jL) (ks0 : jk Z s0 14) (h : f_X8_quarrel_b83  Z Q s0 s1 s2 I L) : jJ G 4 83 [] [.int s2, .int s1, .ref s0] Z I L 0 0 := by
  obtain ⟨o1, h⟩ := h
  refine j_iast E ks0 o1 dX8_quarrel_83 ?_
  refine j_nmI (fun I2 eI2 => ?_)
  have h := h I2 eI2
  exact j_return E ⟨rfl, rfl, h⟩ (Nat.zero_le _) (Nat.zero_le _) dX8_quarrel_84
set_option maxRecDepth 100000 in
def f_X8_quarrel_b48  (Z : jZ) (Q : jI → jL → Prop) (v0 : Nat) (v1 : Int32) (v2 : Int32) (v3 : Int32) (s0 : Nat) (s1 : Int32) (s2 : Int32) (I : jI) (L : jL) : Prop := (vp_in s1 (jlen Z s0) ∧ (∀ I4 : jI, I4 = jpI I s0 s1.toNatClampNeg s2 → (∀ b5 : Nat, jr Z v0 5 = some b5 → ((v3 = 0 → (∀ b7 : Nat, jr Z v0 5 = some b7 → (vp_in v2 8 ∧ f_X8_quarrel_b83  Z Q b5 v2 ((I4 b7 v2.toNatClampNeg) &&& (((1 : Int32) <<< (v1 &&& 31)) ^^^ (-1 : Int32))) I4 L))) ∧ (¬ (v3 = 0) → (∀ b9 : Nat, jr Z v0 5 = some b9 → (vp_in v2 8 ∧ f_X8_quarrel_b83  Z Q b5 v2 ((I4 b9 v2.toNatClampNeg) ||| ((1 : Int32) <<< (v1 &&& 31))) I4 L)))))))
set_option maxHeartbeats 4000000 in
set_option maxRecDepth 100000 in
theorem m_X8_quarrel_b48 {G : jG} {Z : jZ} {Q : jI → jL → Prop} (E : jE G cX8_quarrel RX8 w_X8_quarrel 4 none { frames := 1, cells := 0, slots := 0, locals := 20 } (rtV Z Q)) (hZ : SH Z)  (v0 : Nat) (v1 : Int32) (v2 : Int32) (v3 : Int32) (s0 : Nat) (s1 : Int32) (s2 : Int32) (I : jI) (L : jL) (kv0 : jk Z v0 8) (ks0 : jk Z s0 14) (h : f_X8_quarrel_b48  Z Q v0 v1 v2 v3 s0 s1 s2 I L) : jJ G 4 48 [(0, .ref v0), (1, .int v1), (2, .int v2), (3, .int v3)] [.int s2, .int s1, .ref s0] Z I L 0 0 := by
  obtain ⟨o3, h⟩ := h
  refine j_iast E ks0 o3 dX8_quarrel_48 ?_
  refine j_nmI (fun I4 eI4 => ?_)
  have h := h I4 eI4
  refine j_aload_n E dX8_quarrel_49 0 rfl ?_
  obtain ⟨b5, eb5, kb5, lb5⟩ := sh_f hZ kv0 (j := 5) (k := 14) (m := 8) rfl
  have h := h b5 eb5
  refine j_getr E 8 5 rfl rfl (by decide) (by decide) (iw iT_8) rfl rfl (tw W_245) kv0 eb5 dX8_quarrel_50 ?_
  refine j_iload_n E dX8_quarrel_53 2 rfl ?_
  refine j_iload_n E dX8_quarrel_54 3 rfl ?_
  refine j_if_eq E 71 dX8_quarrel_55 (by decide) (fun c6 => ?_) (fun c6 => ?_)
  · have h := h.1 c6
    refine j_aload_n E dX8_quarrel_71 0 rfl ?_
    obtain ⟨b7, eb7, kb7, lb7⟩ := sh_f hZ kv0 (j := 5) (k := 14) (m := 8) rfl
    have h := h b7 eb7
    refine j_getr E 8 5 rfl rfl (by decide) (by decide) (iw iT_8) rfl rfl (tw W_245) kv0 eb7 dX8_quarrel_72 ?_
    refine j_iload_n E dX8_quarrel_75 2 rfl ?_
    obtain ⟨o8, h⟩ := h
    refine j_iald E kb7 (by rw [lb7]; exact o8) dX8_quarrel_76 ?_
    refine j_iconst E (v := 1) dX8_quarrel_77 (by decide) ?_
    refine j_iload_n E dX8_quarrel_78 1 rfl ?_
    refine j_ishl E dX8_quarrel_79 ?_
    refine j_iconst E (v := -1) dX8_quarrel_80 (by decide) ?_
    refine j_ixor E dX8_quarrel_81 ?_
    refine j_iand E dX8_quarrel_82 ?_
    refine j_sub [] rfl ?_
    exact m_X8_quarrel_b83 E hZ  b5 v2 ((I4 b7 v2.toNatClampNeg) &&& (((1 : Int32) <<< (v1 &&& 31)) ^^^ (-1 : Int32))) I4 L kb5 h
  · have h := h.2 c6
    refine j_aload_n E dX8_quarrel_58 0 rfl ?_
    obtain ⟨b9, eb9, kb9, lb9⟩ := sh_f hZ kv0 (j := 5) (k := 14) (m := 8) rfl
    have h := h b9 eb9
    refine j_getr E 8 5 rfl rfl (by decide) (by decide) (iw iT_8) rfl rfl (tw W_245) kv0 eb9 dX8_quarrel_59 ?_
    refine j_iload_n E dX8_quarrel_62 2 rfl ?_
    obtain ⟨o10, h⟩ := h
    refine j_iald E kb9 (by rw [lb9]; exact o10) dX8_quarrel_63 ?_
    refine j_iconst E (v := 1) dX8_quarrel_64 (by decide) ?_
    refine j_iload_n E dX8_quarrel_65 1 rfl ?_
    refine j_ishl E dX8_quarrel_66 ?_
    refine j_ior E dX8_quarrel_67 ?_
    refine j_goto E 83 dX8_quarrel_68 (by decide) ?_
    refine j_sub [] rfl ?_
    exact m_X8_quarrel_b83 E hZ  b5 v2 ((I4 b9 v2.toNatClampNeg) ||| ((1 : Int32) <<< (v1 &&& 31))) I4 L kb5 h
set_option maxRecDepth 100000 in
def f_X8_quarrel (v0 : Nat) (v1 : Int32) (v2 : Int32) (v3 : Int32) (Z : jZ) (I : jI) (L : jL) (Q : jI → jL → Prop) : Prop := (f_X11_isFamily v1 Z I L (fun r16 I13 L14 => ((r16 = 0 → Q I13 L14) ∧ (¬ (r16 = 0) → (f_X11_isFamily v2 Z I13 L14 (fun r23 I20 L21 => ((r23 = 0 → Q I20 L21) ∧ (¬ (r23 = 0) → (∀ b25 : Nat, jr Z v0 5 = some b25 → ((v3 = 0 → (∀ b27 : Nat, jr Z v0 5 = some b27 → (vp_in v1 8 ∧ f_X8_quarrel_b48  Z Q v0 v1 v2 v3 b25 v1 ((I20 b27 v1.toNatClampNeg) &&& (((1 : Int32) <<< (v2 &&& 31)) ^^^ (-1 : Int32))) I20 L21))) ∧ (¬ (v3 = 0) → (∀ b29 : Nat, jr Z v0 5 = some b29 → (vp_in v1 8 ∧ f_X8_quarrel_b48  Z Q v0 v1 v2 v3 b25 v1 ((I20 b29 v1.toNatClampNeg) ||| ((1 : Int32) <<< (v2 &&& 31))) I20 L21)))))))))))))
set_option maxHeartbeats 4000000 in
set_option maxRecDepth 100000 in
theorem c_X8_quarrel (l : Launch) (D : va_G) (cy : jC) (v0 : Nat) (v1 : Int32) (v2 : Int32) (v3 : Int32) (Z : jZ) (I : jI) (L : jL) (Q : jI → jL → Prop) (hZ : SH Z) (kv0 : jk Z v0 8) (h : f_X8_quarrel v0 v1 v2 v3 Z I L Q) : jCt l yX8_quarrel w_X8_quarrel { frames := 1, cells := 0, slots := 0, locals := 20 } D cy [.ref v0, .int v1, .int v2, .int v3] Z I L (rtV Z Q) := by
  refine jCt_of (cc := cX8_quarrel) (maxL := 4) (ret := none) (by decide +kernel) rfl (Nat.le_of_ble_eq_true rfl) ?_
  intro G eD eY eL E
  subst eD; subst eY; subst eL
  have E : jE G cX8_quarrel RX8 w_X8_quarrel 4 none { frames := 1, cells := 0, slots := 0, locals := 20 } (rtV Z Q) := E
  show jJ G 4 0 [(0, .ref v0), (1, .int v1), (2, .int v2), (3, .int v3)] [] Z I L 0 0
  refine j_iload_n E dX8_quarrel_0 1 rfl ?_
  refine j_callSN E [.int v1] [] (c_X11_isFamily (gL G) (gD G) (gY G) v1 Z I L _ hZ  h) (gwN W_213) rfl (nm_X11_isFamily_X8_71) (tw W_28) (tw W_214) fy_X11_isFamily ⟨by decide, by decide⟩ rfl rfl (Nat.le_of_ble_eq_true rfl) ⟨Nat.zero_le _, Nat.zero_le _⟩ dX8_quarrel_1 (fun v11 Z12 I13 L14 q15 => ?_)
  obtain ⟨rfl, r16, rfl, zr16, h⟩ := q15
  show jJ G 4 4 [(0, .ref v0), (1, .int v1), (2, .int v2), (3, .int v3)] [.int r16] Z I13 L14 0 0
  refine j_if_eq E 84 dX8_quarrel_4 (by decide) (fun c17 => ?_) (fun c17 => ?_)
  · have h := h.1 c17
    exact j_return E ⟨rfl, rfl, h⟩ (Nat.zero_le _) (Nat.zero_le _) dX8_quarrel_84
  · have h := h.2 c17
    refine j_iload_n E dX8_quarrel_7 2 rfl ?_
    refine j_callSN E [.int v2] [] (c_X11_isFamily (gL G) (gD G) (gY G) v2 Z I13 L14 _ hZ  h) (gwN W_213) rfl (nm_X11_isFamily_X8_71) (tw W_28) (tw W_214) fy_X11_isFamily ⟨by decide, by decide⟩ rfl rfl (Nat.le_of_ble_eq_true rfl) ⟨Nat.zero_le _, Nat.zero_le _⟩ dX8_quarrel_8 (fun v18 Z19 I20 L21 q22 => ?_)
    obtain ⟨rfl, r23, rfl, zr23, h⟩ := q22
    show jJ G 4 11 [(0, .ref v0), (1, .int v1), (2, .int v2), (3, .int v3)] [.int r23] Z I20 L21 0 0
    refine j_if_eq E 84 dX8_quarrel_11 (by decide) (fun c24 => ?_) (fun c24 => ?_)
    · have h := h.1 c24
      exact j_return E ⟨rfl, rfl, h⟩ (Nat.zero_le _) (Nat.zero_le _) dX8_quarrel_84
    · have h := h.2 c24
      refine j_aload_n E dX8_quarrel_14 0 rfl ?_
      obtain ⟨b25, eb25, kb25, lb25⟩ := sh_f hZ kv0 (j := 5) (k := 14) (m := 8) rfl
      have h := h b25 eb25
      refine j_getr E 8 5 rfl rfl (by decide) (by decide) (iw iT_8) rfl rfl (tw W_245) kv0 eb25 dX8_quarrel_15 ?_
      refine j_iload_n E dX8_quarrel_18 1 rfl ?_
      refine j_iload_n E dX8_quarrel_19 3 rfl ?_
      refine j_if_eq E 36 dX8_quarrel_20 (by decide) (fun c26 => ?_) (fun c26 => ?_)
      · have h := h.1 c26
        refine j_aload_n E dX8_quarrel_36 0 rfl ?_
        obtain ⟨b27, eb27, kb27, lb27⟩ := sh_f hZ kv0 (j := 5) (k := 14) (m := 8) rfl
        have h := h b27 eb27
        refine j_getr E 8 5 rfl rfl (by decide) (by decide) (iw iT_8) rfl rfl (tw W_245) kv0 eb27 dX8_quarrel_37 ?_
        refine j_iload_n E dX8_quarrel_40 1 rfl ?_
        obtain ⟨o28, h⟩ := h
        refine j_iald E kb27 (by rw [lb27]; exact o28) dX8_quarrel_41 ?_
        refine j_iconst E (v := 1) dX8_quarrel_42 (by decide) ?_
        refine j_iload_n E dX8_quarrel_43 2 rfl ?_
        refine j_ishl E dX8_quarrel_44 ?_
        refine j_iconst E (v := -1) dX8_quarrel_45 (by decide) ?_
        refine j_ixor E dX8_quarrel_46 ?_
        refine j_iand E dX8_quarrel_47 ?_
        refine j_sub [0, 1, 2, 3] rfl ?_
        exact m_X8_quarrel_b48 E hZ  v0 v1 v2 v3 b25 v1 ((I20 b27 v1.toNatClampNeg) &&& (((1 : Int32) <<< (v2 &&& 31)) ^^^ (-1 : Int32))) I20 L21 kv0 kb25 h
      · have h := h.2 c26
        refine j_aload_n E dX8_quarrel_23 0 rfl ?_
        obtain ⟨b29, eb29, kb29, lb29⟩ := sh_f hZ kv0 (j := 5) (k := 14) (m := 8) rfl
        have h := h b29 eb29
        refine j_getr E 8 5 rfl rfl (by decide) (by decide) (iw iT_8) rfl rfl (tw W_245) kv0 eb29 dX8_quarrel_24 ?_
        refine j_iload_n E dX8_quarrel_27 1 rfl ?_
        obtain ⟨o30, h⟩ := h
        refine j_iald E kb29 (by rw [lb29]; exact o30) dX8_quarrel_28 ?_
        refine j_iconst E (v := 1) dX8_quarrel_29 (by decide) ?_
        refine j_iload_n E dX8_quarrel_30 2 rfl ?_
        refine j_ishl E dX8_quarrel_31 ?_
        refine j_ior E dX8_quarrel_32 ?_
        refine j_goto E 48 dX8_quarrel_33 (by decide) ?_
        refine j_sub [0, 1, 2, 3] rfl ?_
        exact m_X8_quarrel_b48 E hZ  v0 v1 v2 v3 b25 v1 ((I20 b29 v1.toNatClampNeg) ||| ((1 : Int32) <<< (v2 &&& 31))) I20 L21 kv0 kb25 h
set_option maxRecDepth 100000 in
def f_X8_sumOfFeuds_L4  (Z : jZ) (Q : Int32 → jI → jL → Prop) : Nat → Nat → Int32 → Int32 → jI → jL → Prop
  | 0 => fun _ _ _ _ _ => False
  | n + 1 => fun v0 v1 v2 I L => (((8 : Int32) ≤ v2 → Q (v1 / (2 : Int32)) I L) ∧ (¬ ((8 : Int32) ≤ v2) → (∀ b2 : Nat, jr Z v0 5 = some b2 → (vp_in v2 8 ∧ (f_J6_bitCount_0f7a4 (I b2 v2.toNatClampNeg) Z I L (fun r9 I6 L7 => (∀ x10 : Int32, x10 = (v1 + r9) → (∀ x11 : Int32, x11 = v2 + 1 → (f_X8_sumOfFeuds_L4 Z Q n) v0 x10 x11 I6 L7))))))))
set_option maxHeartbeats 4000000 in
set_option maxRecDepth 100000 in
theorem m_X8_sumOfFeuds_L4 {G : jG} {Z : jZ} {Q : Int32 → jI → jL → Prop} (E : jE G cX8_sumOfFeuds RX8 w_X8_sumOfFeuds 3 (some .int) { frames := 1, cells := 0, slots := 0, locals := 20 } (rtI Z Q)) (hZ : SH Z)  : ∀ (n : Nat) (v0 : Nat) (v1 : Int32) (v2 : Int32) (I : jI) (L : jL), jk Z v0 8 → f_X8_sumOfFeuds_L4  Z Q n v0 v1 v2 I L → jJ G 3 4 [(0, .ref v0), (1, .int v1), (2, .int v2)] [] Z I L 0 0 := by
  intro n
  induction n with
  | zero => intro v0 v1 v2 I L _ h; exact h.elim
  | succ n ih =>
    intro v0 v1 v2 I L kv0 h
    have h : (((8 : Int32) ≤ v2 → Q (v1 / (2 : Int32)) I L) ∧ (¬ ((8 : Int32) ≤ v2) → (∀ b2 : Nat, jr Z v0 5 = some b2 → (vp_in v2 8 ∧ (f_J6_bitCount_0f7a4 (I b2 v2.toNatClampNeg) Z I L (fun r9 I6 L7 => (∀ x10 : Int32, x10 = (v1 + r9) → (∀ x11 : Int32, x11 = v2 + 1 → (f_X8_sumOfFeuds_L4 Z Q n) v0 x10 x11 I6 L7)))))))) := h
    obtain ⟨K4, eK4⟩ : ∃ K : Nat → Int32 → Int32 → jI → jL → Prop, K = f_X8_sumOfFeuds_L4  Z Q n := ⟨_, rfl⟩
    have hK4 := ih
    clear eK4 K4
    generalize f_X8_sumOfFeuds_L4  Z Q n = K4 at hK4 h
    refine j_iload_n E dX8_sumOfFeuds_4 2 rfl ?_
    refine j_bipush E (v := 8) dX8_sumOfFeuds_5 (by decide) ?_
    refine j_icmp_ge E 28 dX8_sumOfFeuds_7 (by decide) (fun c1 => ?_) (fun c1 => ?_)
    · have h := h.1 c1
      refine j_iload_n E dX8_sumOfFeuds_28 1 rfl ?_
      refine j_iconst E (v := 2) dX8_sumOfFeuds_29 (by decide) ?_
      refine j_idiv E dX8_sumOfFeuds_30 (by decide) ?_
      exact j_ireturn E ⟨rfl, _, rfl, h⟩ (Nat.zero_le _) (Nat.zero_le _) dX8_sumOfFeuds_31
    · have h := h.2 c1
      refine j_iload_n E dX8_sumOfFeuds_10 1 rfl ?_
      refine j_aload_n E dX8_sumOfFeuds_11 0 rfl ?_
      obtain ⟨b2, eb2, kb2, lb2⟩ := sh_f hZ kv0 (j := 5) (k := 14) (m := 8) rfl
      have h := h b2 eb2
      refine j_getr E 8 5 rfl rfl (by decide) (by decide) (iw iT_8) rfl rfl (tw W_245) kv0 eb2 dX8_sumOfFeuds_12 ?_
      refine j_iload_n E dX8_sumOfFeuds_15 2 rfl ?_
      obtain ⟨o3, h⟩ := h
      refine j_iald E kb2 (by rw [lb2]; exact o3) dX8_sumOfFeuds_16 ?_
      refine j_callS E [.int (I b2 v2.toNatClampNeg)] [.int v1] (c_J6_bitCount_0f7a4 (gL G) (gD G) (gY G) (I b2 v2.toNatClampNeg) Z I L _ hZ  h) (gwS W_356 W_236 W_234 W_233) rfl fy_J6_bitCount_0f7a4 ⟨by decide, by decide⟩ rfl rfl (Nat.le_of_ble_eq_true rfl) ⟨Nat.zero_le _, Nat.zero_le _⟩ dX8_sumOfFeuds_17 (fun v4 Z5 I6 L7 q8 => ?_)
      obtain ⟨rfl, r9, rfl, h⟩ := q8
      show jJ G 3 20 [(0, .ref v0), (1, .int v1), (2, .int v2)] [.int r9, .int v1] Z I6 L7 0 0
      refine j_iadd E dX8_sumOfFeuds_20 ?_
      refine j_topi (fun x10 ex10 => ?_)
      have h := h x10 ex10
      refine j_istore_n E 1 [(1, .int x10), (0, .ref v0), (2, .int v2)] dX8_sumOfFeuds_21 rfl (by decide) rfl ?_
      obtain ⟨x11, ex11⟩ : ∃ y : Int32, y = v2 + 1 := ⟨_, rfl⟩
      have h := h x11 ex11
      refine j_iinc E x11 [(2, .int x11), (1, .int x10), (0, .ref v0)] dX8_sumOfFeuds_22 2 rfl (by rw [ex11]; rfl) (by decide) rfl ?_
      refine j_goto E 4 dX8_sumOfFeuds_25 (by decide) ?_
      refine j_sub [2, 1, 0] rfl ?_
      exact hK4 v0 x10 x11 I6 L7 kv0 h
set_option maxRecDepth 100000 in
def f_X8_sumOfFeuds (v0 : Nat) (Z : jZ) (I : jI) (L : jL) (Q : Int32 → jI → jL → Prop) : Prop := (∃ m4 : Nat, f_X8_sumOfFeuds_L4  Z Q m4 v0 (0 : Int32) (0 : Int32) I L)
set_option maxHeartbeats 4000000 in
set_option maxRecDepth 100000 in
theorem c_X8_sumOfFeuds (l : Launch) (D : va_G) (cy : jC) (v0 : Nat) (Z : jZ) (I : jI) (L : jL) (Q : Int32 → jI → jL → Prop) (hZ : SH Z) (kv0 : jk Z v0 8) (h : f_X8_sumOfFeuds v0 Z I L Q) : jCt l yX8_sumOfFeuds w_X8_sumOfFeuds { frames := 1, cells := 0, slots := 0, locals := 20 } D cy [.ref v0] Z I L (rtI Z Q) := by
  refine jCt_of (cc := cX8_sumOfFeuds) (maxL := 3) (ret := (some .int)) (by decide +kernel) rfl (Nat.le_of_ble_eq_true rfl) ?_
  intro G eD eY eL E
  subst eD; subst eY; subst eL
  have E : jE G cX8_sumOfFeuds RX8 w_X8_sumOfFeuds 3 (some .int) { frames := 1, cells := 0, slots := 0, locals := 20 } (rtI Z Q) := E
  show jJ G 3 0 [(0, .ref v0)] [] Z I L 0 0
  refine j_iconst E (v := 0) dX8_sumOfFeuds_0 (by decide) ?_
  refine j_istore_n E 1 [(1, .int (0 : Int32)), (0, .ref v0)] dX8_sumOfFeuds_1 rfl (by decide) rfl ?_
  refine j_iconst E (v := 0) dX8_sumOfFeuds_2 (by decide) ?_
  refine j_istore_n E 2 [(2, .int (0 : Int32)), (1, .int (0 : Int32)), (0, .ref v0)] dX8_sumOfFeuds_3 rfl (by decide) rfl ?_
  obtain ⟨n12, h⟩ := h
  refine j_sub [2, 1, 0] rfl ?_
  exact m_X8_sumOfFeuds_L4 E hZ  n12 v0 (0 : Int32) (0 : Int32) I L kv0 h
set_option maxRecDepth 100000 in
def f_X8_mindsFeud_b122 (K31 : Nat → Int32 → Int32 → Int32 → Int32 → jI → jL → Prop) (Z : jZ) (Q : Int32 → jI → jL → Prop) (v0 : Nat) (v1 : Int32) (v2 : Int32) (v3 : Int32) (v4 : Int32) (I : jI) (L : jL) : Prop := (∀ x1 : Int32, x1 = v4 + 1 → K31 v0 v1 v2 v3 x1 I L)
set_option maxHeartbeats 4000000 in
set_option maxRecDepth 100000 in
theorem m_X8_mindsFeud_b122 {G : jG} {Z : jZ} {Q : Int32 → jI → jL → Prop} (E : jE G cX8_mindsFeud RX8 w_X8_mindsFeud 8 (some .boolean) { frames := 2, cells := 0, slots := 0, locals := 41 } (rtZ Z Q)) (hZ : SH Z) (K31 : Nat → Int32 → Int32 → Int32 → Int32 → jI → jL → Prop) (hK31 : ∀ (v0 : Nat) (v1 : Int32) (v2 : Int32) (v3 : Int32) (v4 : Int32) (I : jI) (L : jL), jk Z v0 8 → K31 v0 v1 v2 v3 v4 I L → jJ G 8 31 [(0, .ref v0), (1, .int v1), (2, .int v2), (3, .int v3), (4, .int v4)] [] Z I L 0 0) (v0 : Nat) (v1 : Int32) (v2 : Int32) (v3 : Int32) (v4 : Int32) (I : jI) (L : jL) (kv0 : jk Z v0 8) (h : f_X8_mindsFeud_b122 K31 Z Q v0 v1 v2 v3 v4 I L) : jJ G 8 122 [(0, .ref v0), (1, .int v1), (2, .int v2), (3, .int v3), (4, .int v4)] [] Z I L 0 0 := by
  obtain ⟨x1, ex1⟩ : ∃ y : Int32, y = v4 + 1 := ⟨_, rfl⟩
  have h := h x1 ex1
  refine j_iinc E x1 [(4, .int x1), (0, .ref v0), (1, .int v1), (2, .int v2), (3, .int v3)] dX8_mindsFeud_122 4 rfl (by rw [ex1]; rfl) (by decide) rfl ?_
  refine j_goto E 31 dX8_mindsFeud_125 (by decide) ?_
  refine j_sub [1, 2, 3, 4, 0] rfl ?_
  exact hK31 v0 v1 v2 v3 x1 I L kv0 h
set_option maxRecDepth 100000 in
def f_X8_mindsFeud_b116 (K31 : Nat → Int32 → Int32 → Int32 → Int32 → jI → jL → Prop) (K50 : Nat → Int32 → Int32 → Int32 → Int32 → Int32 → jI → jL → Prop) (Z : jZ) (Q : Int32 → jI → jL → Prop) (v0 : Nat) (v1 : Int32) (v2 : Int32) (v3 : Int32) (v4 : Int32) (v5 : Int32) (I : jI) (L : jL) : Prop := (∀ x2 : Int32, x2 = v5 + 1 → K50 v0 v1 v2 v3 v4 x2 I L)
set_option maxHeartbeats 4000000 in
set_option maxRecDepth 100000 in
theorem m_X8_mindsFeud_b116 {G : jG} {Z : jZ} {Q : Int32 → jI → jL → Prop} (E : jE G cX8_mindsFeud RX8 w_X8_mindsFeud 8 (some .boolean) { frames := 2, cells := 0, slots := 0, locals := 41 } (rtZ Z Q)) (hZ : SH Z) (K31 : Nat → Int32 → Int32 → Int32 → Int32 → jI → jL → Prop) (hK31 : ∀ (v0 : Nat) (v1 : Int32) (v2 : Int32) (v3 : Int32) (v4 : Int32) (I : jI) (L : jL), jk Z v0 8 → K31 v0 v1 v2 v3 v4 I L → jJ G 8 31 [(0, .ref v0), (1, .int v1), (2, .int v2), (3, .int v3), (4, .int v4)] [] Z I L 0 0) (K50 : Nat → Int32 → Int32 → Int32 → Int32 → Int32 → jI → jL → Prop) (hK50 : ∀ (v0 : Nat) (v1 : Int32) (v2 : Int32) (v3 : Int32) (v4 : Int32) (v5 : Int32) (I : jI) (L : jL), jk Z v0 8 → K50 v0 v1 v2 v3 v4 v5 I L → jJ G 8 50 [(0, .ref v0), (1, .int v1), (2, .int v2), (3, .int v3), (4, .int v4), (5, .int v5)] [] Z I L 0 0) (v0 : Nat) (v1 : Int32) (v2 : Int32) (v3 : Int32) (v4 : Int32) (v5 : Int32) (I : jI) (L : jL) (kv0 : jk Z v0 8) (h : f_X8_mindsFeud_b116 K31 K50 Z Q v0 v1 v2 v3 v4 v5 I L) : jJ G 8 116 [(0, .ref v0), (1, .int v1), (2, .int v2), (3, .int v3), (4, .int v4), (5, .int v5)] [] Z I L 0 0 := by
  obtain ⟨x2, ex2⟩ : ∃ y : Int32, y = v5 + 1 := ⟨_, rfl⟩
  have h := h x2 ex2
  refine j_iinc E x2 [(5, .int x2), (0, .ref v0), (1, .int v1), (2, .int v2), (3, .int v3), (4, .int v4)] dX8_mindsFeud_116 5 rfl (by rw [ex2]; rfl) (by decide) rfl ?_
  refine j_goto E 50 dX8_mindsFeud_119 (by decide) ?_
  refine j_sub [1, 2, 3, 4, 5, 0] rfl ?_
  exact hK50 v0 v1 v2 v3 v4 x2 I L kv0 h
set_option maxRecDepth 100000 in
def f_X8_mindsFeud_b102 (K31 : Nat → Int32 → Int32 → Int32 → Int32 → jI → jL → Prop) (K50 : Nat → Int32 → Int32 → Int32 → Int32 → Int32 → jI → jL → Prop) (Z : jZ) (Q : Int32 → jI → jL → Prop) (v0 : Nat) (v1 : Int32) (v2 : Int32) (v3 : Int32) (v4 : Int32) (v5 : Int32) (v6 : Int32) (v7 : Int32) (I : jI) (L : jL) : Prop := ((¬ v6 = v2 → f_X8_mindsFeud_b116 K31 K50 Z Q v0 v1 v2 v3 v4 v5 I L) ∧ (v6 = v2 → ((¬ v7 = v1 → f_X8_mindsFeud_b116 K31 K50 Z Q v0 v1 v2 v3 v4 v5 I L) ∧ (v7 = v1 → Q (1 : Int32) I L))))
set_option maxHeartbeats 4000000 in
set_option maxRecDepth 100000 in
theorem m_X8_mindsFeud_b102 {G : jG} {Z : jZ} {Q : Int32 → jI → jL → Prop} (E : jE G cX8_mindsFeud RX8 w_X8_mindsFeud 8 (some .boolean) { frames := 2, cells := 0, slots := 0, locals := 41 } (rtZ Z Q)) (hZ : SH Z) (K31 : Nat → Int32 → Int32 → Int32 → Int32 → jI → jL → Prop) (hK31 : ∀ (v0 : Nat) (v1 : Int32) (v2 : Int32) (v3 : Int32) (v4 : Int32) (I : jI) (L : jL), jk Z v0 8 → K31 v0 v1 v2 v3 v4 I L → jJ G 8 31 [(0, .ref v0), (1, .int v1), (2, .int v2), (3, .int v3), (4, .int v4)] [] Z I L 0 0) (K50 : Nat → Int32 → Int32 → Int32 → Int32 → Int32 → jI → jL → Prop) (hK50 : ∀ (v0 : Nat) (v1 : Int32) (v2 : Int32) (v3 : Int32) (v4 : Int32) (v5 : Int32) (I : jI) (L : jL), jk Z v0 8 → K50 v0 v1 v2 v3 v4 v5 I L → jJ G 8 50 [(0, .ref v0), (1, .int v1), (2, .int v2), (3, .int v3), (4, .int v4), (5, .int v5)] [] Z I L 0 0) (v0 : Nat) (v1 : Int32) (v2 : Int32) (v3 : Int32) (v4 : Int32) (v5 : Int32) (v6 : Int32) (v7 : Int32) (I : jI) (L : jL) (kv0 : jk Z v0 8) (h : f_X8_mindsFeud_b102 K31 K50 Z Q v0 v1 v2 v3 v4 v5 v6 v7 I L) : jJ G 8 102 [(0, .ref v0), (1, .int v1), (2, .int v2), (3, .int v3), (4, .int v4), (5, .int v5), (6, .int v6), (7, .int v7)] [] Z I L 0 0 := by
  refine j_iload E dX8_mindsFeud_102 6 rfl ?_
  refine j_iload_n E dX8_mindsFeud_104 2 rfl ?_
  refine j_icmp_ne E 116 dX8_mindsFeud_105 (by decide) (fun c3 => ?_) (fun c3 => ?_)
  · have h := h.1 c3
    refine j_sub [0, 1, 2, 3, 4, 5] rfl ?_
    exact m_X8_mindsFeud_b116 E hZ K31 hK31 K50 hK50 v0 v1 v2 v3 v4 v5 I L kv0 h
  · have h := h.2 c3
    refine j_iload E dX8_mindsFeud_108 7 rfl ?_
    refine j_iload_n E dX8_mindsFeud_110 1 rfl ?_
    refine j_icmp_ne E 116 dX8_mindsFeud_111 (by decide) (fun c4 => ?_) (fun c4 => ?_)
    · have h := h.1 c4
      refine j_sub [0, 1, 2, 3, 4, 5] rfl ?_
      exact m_X8_mindsFeud_b116 E hZ K31 hK31 K50 hK50 v0 v1 v2 v3 v4 v5 I L kv0 h
    · have h := h.2 c4
      refine j_iconst E (v := 1) dX8_mindsFeud_114 (by decide) ?_
      exact j_zreturn E (Or.inr rfl) ⟨rfl, _, rfl, (Or.inr rfl), h⟩ (Nat.zero_le _) (Nat.zero_le _) dX8_mindsFeud_115
set_option maxRecDepth 100000 in
def f_X8_mindsFeud_L50 (K31 : Nat → Int32 → Int32 → Int32 → Int32 → jI → jL → Prop) (Z : jZ) (Q : Int32 → jI → jL → Prop) : Nat → Nat → Int32 → Int32 → Int32 → Int32 → Int32 → jI → jL → Prop
  | 0 => fun _ _ _ _ _ _ _ _ => False
  | n + 1 => fun v0 v1 v2 v3 v4 v5 I L => (((I v0 9) ≤ v5 → f_X8_mindsFeud_b122 K31 Z Q v0 v1 v2 v3 v4 I L) ∧ (¬ ((I v0 9) ≤ v5) → (((v4 + (3 : Int32)) < v5 → f_X8_mindsFeud_b122 K31 Z Q v0 v1 v2 v3 v4 I L) ∧ (¬ ((v4 + (3 : Int32)) < v5) → (∀ b7 : Nat, jr Z v0 4 = some b7 → (f_X4_mainOf b7 v4 Z I L (fun r13 I10 L11 => (∀ b14 : Nat, jr Z v0 4 = some b14 → (f_X4_mainOf b14 v5 Z I10 L11 (fun r20 I17 L18 => ((¬ r13 = v1 → f_X8_mindsFeud_b102 K31 (f_X8_mindsFeud_L50 K31 Z Q n) Z Q v0 v1 v2 v3 v4 v5 r13 r20 I17 L18) ∧ (r13 = v1 → ((r20 = v2 → Q (1 : Int32) I17 L18) ∧ (¬ (r20 = v2) → f_X8_mindsFeud_b102 K31 (f_X8_mindsFeud_L50 K31 Z Q n) Z Q v0 v1 v2 v3 v4 v5 r13 r20 I17 L18))))))))))))))
set_option maxHeartbeats 4000000 in
set_option maxRecDepth 100000 in
theorem m_X8_mindsFeud_L50 {G : jG} {Z : jZ} {Q : Int32 → jI → jL → Prop} (E : jE G cX8_mindsFeud RX8 w_X8_mindsFeud 8 (some .boolean) { frames := 2, cells := 0, slots := 0, locals := 41 } (rtZ Z Q)) (hZ : SH Z) (K31 : Nat → Int32 → Int32 → Int32 → Int32 → jI → jL → Prop) (hK31 : ∀ (v0 : Nat) (v1 : Int32) (v2 : Int32) (v3 : Int32) (v4 : Int32) (I : jI) (L : jL), jk Z v0 8 → K31 v0 v1 v2 v3 v4 I L → jJ G 8 31 [(0, .ref v0), (1, .int v1), (2, .int v2), (3, .int v3), (4, .int v4)] [] Z I L 0 0) : ∀ (n : Nat) (v0 : Nat) (v1 : Int32) (v2 : Int32) (v3 : Int32) (v4 : Int32) (v5 : Int32) (I : jI) (L : jL), jk Z v0 8 → f_X8_mindsFeud_L50 K31 Z Q n v0 v1 v2 v3 v4 v5 I L → jJ G 8 50 [(0, .ref v0), (1, .int v1), (2, .int v2), (3, .int v3), (4, .int v4), (5, .int v5)] [] Z I L 0 0 := by
  intro n
  induction n with
  | zero => intro v0 v1 v2 v3 v4 v5 I L _ h; exact h.elim
  | succ n ih =>
    intro v0 v1 v2 v3 v4 v5 I L kv0 h
    have h : (((I v0 9) ≤ v5 → f_X8_mindsFeud_b122 K31 Z Q v0 v1 v2 v3 v4 I L) ∧ (¬ ((I v0 9) ≤ v5) → (((v4 + (3 : Int32)) < v5 → f_X8_mindsFeud_b122 K31 Z Q v0 v1 v2 v3 v4 I L) ∧ (¬ ((v4 + (3 : Int32)) < v5) → (∀ b7 : Nat, jr Z v0 4 = some b7 → (f_X4_mainOf b7 v4 Z I L (fun r13 I10 L11 => (∀ b14 : Nat, jr Z v0 4 = some b14 → (f_X4_mainOf b14 v5 Z I10 L11 (fun r20 I17 L18 => ((¬ r13 = v1 → f_X8_mindsFeud_b102 K31 (f_X8_mindsFeud_L50 K31 Z Q n) Z Q v0 v1 v2 v3 v4 v5 r13 r20 I17 L18) ∧ (r13 = v1 → ((r20 = v2 → Q (1 : Int32) I17 L18) ∧ (¬ (r20 = v2) → f_X8_mindsFeud_b102 K31 (f_X8_mindsFeud_L50 K31 Z Q n) Z Q v0 v1 v2 v3 v4 v5 r13 r20 I17 L18)))))))))))))) := h
    obtain ⟨K50, eK50⟩ : ∃ K : Nat → Int32 → Int32 → Int32 → Int32 → Int32 → jI → jL → Prop, K = f_X8_mindsFeud_L50 K31 Z Q n := ⟨_, rfl⟩
    have hK50 := ih
    clear eK50 K50
    generalize f_X8_mindsFeud_L50 K31 Z Q n = K50 at hK50 h
    refine j_iload E dX8_mindsFeud_50 5 rfl ?_
    refine j_aload_n E dX8_mindsFeud_52 0 rfl ?_
    refine j_geti E 8 9 rfl rfl (by decide) (by decide) (iw iT_8) rfl rfl (tw W_244) kv0 dX8_mindsFeud_53 ?_
    refine j_icmp_ge E 122 dX8_mindsFeud_56 (by decide) (fun c5 => ?_) (fun c5 => ?_)
    · have h := h.1 c5
      refine j_sub [0, 1, 2, 3, 4] rfl ?_
      exact m_X8_mindsFeud_b122 E hZ K31 hK31 v0 v1 v2 v3 v4 I L kv0 h
    · have h := h.2 c5
      refine j_iload E dX8_mindsFeud_59 5 rfl ?_
      refine j_iload E dX8_mindsFeud_61 4 rfl ?_
      refine j_iconst E (v := 3) dX8_mindsFeud_63 (by decide) ?_
      refine j_iadd E dX8_mindsFeud_64 ?_
      refine j_icmp_gt E 122 dX8_mindsFeud_65 (by decide) (fun c6 => ?_) (fun c6 => ?_)
      · have h := h.1 c6
        refine j_sub [0, 1, 2, 3, 4] rfl ?_
        exact m_X8_mindsFeud_b122 E hZ K31 hK31 v0 v1 v2 v3 v4 I L kv0 h
      · have h := h.2 c6
        refine j_aload_n E dX8_mindsFeud_68 0 rfl ?_
        obtain ⟨b7, eb7, kb7⟩ := sh_o hZ kv0 (j := 4) (k := 4) rfl
        have h := h b7 eb7
        refine j_getr E 8 4 rfl rfl (by decide) (by decide) (iw iT_8) rfl rfl (tw W_256) kv0 eb7 dX8_mindsFeud_69 ?_
        refine j_iload E dX8_mindsFeud_72 4 rfl ?_
        refine j_callV E [.int v4] [] (c_X4_mainOf (gL G) (gD G) (gY G) b7 v4 Z I L _ hZ kb7 h) (gwV W_258 W_259 W_260 W_154 W_257) rfl ⟨rfl, fy_X4_mainOf⟩ ⟨by decide, by decide⟩ (c := 4) rfl (by decide) kb7 rfl rfl (Nat.le_of_ble_eq_true rfl) ⟨Nat.zero_le _, Nat.zero_le _⟩ dX8_mindsFeud_74 (fun v8 Z9 I10 L11 q12 => ?_)
        obtain ⟨rfl, r13, rfl, h⟩ := q12
        show jJ G 8 77 [(0, .ref v0), (1, .int v1), (2, .int v2), (3, .int v3), (4, .int v4), (5, .int v5)] [.int r13] Z I10 L11 0 0
        refine j_istore E 6 [(6, .int r13), (0, .ref v0), (1, .int v1), (2, .int v2), (3, .int v3), (4, .int v4), (5, .int v5)] dX8_mindsFeud_77 (by decide) rfl ?_
        refine j_aload_n E dX8_mindsFeud_79 1 rfl ?_
        obtain ⟨b14, eb14, kb14⟩ := sh_o hZ kv0 (j := 4) (k := 4) rfl
        have h := h b14 eb14
        refine j_getr E 8 4 rfl rfl (by decide) (by decide) (iw iT_8) rfl rfl (tw W_256) kv0 eb14 dX8_mindsFeud_80 ?_
        refine j_iload E dX8_mindsFeud_83 6 rfl ?_
        refine j_callV E [.int v5] [] (c_X4_mainOf (gL G) (gD G) (gY G) b14 v5 Z I10 L11 _ hZ kb14 h) (gwV W_258 W_259 W_260 W_154 W_257) rfl ⟨rfl, fy_X4_mainOf⟩ ⟨by decide, by decide⟩ (c := 4) rfl (by decide) kb14 rfl rfl (Nat.le_of_ble_eq_true rfl) ⟨Nat.zero_le _, Nat.zero_le _⟩ dX8_mindsFeud_85 (fun v15 Z16 I17 L18 q19 => ?_)
        obtain ⟨rfl, r20, rfl, h⟩ := q19
        show jJ G 8 88 [(6, .int r13), (0, .ref v0), (1, .int v1), (2, .int v2), (3, .int v3), (4, .int v4), (5, .int v5)] [.int r20] Z I17 L18 0 0
        refine j_istore E 7 [(7, .int r20), (6, .int r13), (0, .ref v0), (1, .int v1), (2, .int v2), (3, .int v3), (4, .int v4), (5, .int v5)] dX8_mindsFeud_88 (by decide) rfl ?_
        refine j_iload E dX8_mindsFeud_90 1 rfl ?_
        refine j_iload_n E dX8_mindsFeud_92 3 rfl ?_
        refine j_icmp_ne E 102 dX8_mindsFeud_93 (by decide) (fun c21 => ?_) (fun c21 => ?_)
        · have h := h.1 c21
          refine j_sub [2, 3, 4, 5, 6, 7, 1, 0] rfl ?_
          exact m_X8_mindsFeud_b102 E hZ K31 hK31 K50 hK50 v0 v1 v2 v3 v4 v5 r13 r20 I17 L18 kv0 h
        · have h := h.2 c21
          refine j_iload E dX8_mindsFeud_96 0 rfl ?_
          refine j_iload_n E dX8_mindsFeud_98 4 rfl ?_
          refine j_icmp_eq E 114 dX8_mindsFeud_99 (by decide) (fun c22 => ?_) (fun c22 => ?_)
          · have h := h.1 c22
            refine j_iconst E (v := 1) dX8_mindsFeud_114 (by decide) ?_
            exact j_zreturn E (Or.inr rfl) ⟨rfl, _, rfl, (Or.inr rfl), h⟩ (Nat.zero_le _) (Nat.zero_le _) dX8_mindsFeud_115
          · have h := h.2 c22
            refine j_sub [2, 3, 4, 5, 6, 7, 1, 0] rfl ?_
            exact m_X8_mindsFeud_b102 E hZ K31 hK31 K50 hK50 v0 v1 v2 v3 v4 v5 r13 r20 I17 L18 kv0 h
set_option maxRecDepth 100000 in
def f_X8_mindsFeud_L31  (Z : jZ) (Q : Int32 → jI → jL → Prop) : Nat → Nat → Int32 → Int32 → Int32 → Int32 → jI → jL → Prop
  | 0 => fun _ _ _ _ _ _ _ => False
  | n + 1 => fun v0 v1 v2 v3 v4 I L => (((I v0 9) ≤ v4 → Q (0 : Int32) I L) ∧ (¬ ((I v0 9) ≤ v4) → ((v3 = 0 → Q (0 : Int32) I L) ∧ (¬ (v3 = 0) → (∀ x25 : Int32, x25 = (v4 + (1 : Int32)) → (∃ m50 : Nat, f_X8_mindsFeud_L50 (f_X8_mindsFeud_L31 Z Q n) Z Q m50 v0 v1 v2 v3 v4 x25 I L))))))
set_option maxHeartbeats 4000000 in
set_option maxRecDepth 100000 in
theorem m_X8_mindsFeud_L31 {G : jG} {Z : jZ} {Q : Int32 → jI → jL → Prop} (E : jE G cX8_mindsFeud RX8 w_X8_mindsFeud 8 (some .boolean) { frames := 2, cells := 0, slots := 0, locals := 41 } (rtZ Z Q)) (hZ : SH Z)  : ∀ (n : Nat) (v0 : Nat) (v1 : Int32) (v2 : Int32) (v3 : Int32) (v4 : Int32) (I : jI) (L : jL), jk Z v0 8 → f_X8_mindsFeud_L31  Z Q n v0 v1 v2 v3 v4 I L → jJ G 8 31 [(0, .ref v0), (1, .int v1), (2, .int v2), (3, .int v3), (4, .int v4)] [] Z I L 0 0 := by
  intro n
  induction n with
  | zero => intro v0 v1 v2 v3 v4 I L _ h; exact h.elim
  | succ n ih =>
    intro v0 v1 v2 v3 v4 I L kv0 h
    have h : (((I v0 9) ≤ v4 → Q (0 : Int32) I L) ∧ (¬ ((I v0 9) ≤ v4) → ((v3 = 0 → Q (0 : Int32) I L) ∧ (¬ (v3 = 0) → (∀ x25 : Int32, x25 = (v4 + (1 : Int32)) → (∃ m50 : Nat, f_X8_mindsFeud_L50 (f_X8_mindsFeud_L31 Z Q n) Z Q m50 v0 v1 v2 v3 v4 x25 I L)))))) := h
    obtain ⟨K31, eK31⟩ : ∃ K : Nat → Int32 → Int32 → Int32 → Int32 → jI → jL → Prop, K = f_X8_mindsFeud_L31  Z Q n := ⟨_, rfl⟩
    have hK31 := ih
    clear eK31 K31
    generalize f_X8_mindsFeud_L31  Z Q n = K31 at hK31 h
    refine j_iload E dX8_mindsFeud_31 4 rfl ?_
    refine j_aload_n E dX8_mindsFeud_33 0 rfl ?_
    refine j_geti E 8 9 rfl rfl (by decide) (by decide) (iw iT_8) rfl rfl (tw W_244) kv0 dX8_mindsFeud_34 ?_
    refine j_icmp_ge E 128 dX8_mindsFeud_37 (by decide) (fun c23 => ?_) (fun c23 => ?_)
    · have h := h.1 c23
      refine j_iconst E (v := 0) dX8_mindsFeud_128 (by decide) ?_
      exact j_zreturn E (Or.inl rfl) ⟨rfl, _, rfl, (Or.inl rfl), h⟩ (Nat.zero_le _) (Nat.zero_le _) dX8_mindsFeud_129
    · have h := h.2 c23
      refine j_iload_n E dX8_mindsFeud_40 3 rfl ?_
      refine j_if_eq E 128 dX8_mindsFeud_41 (by decide) (fun c24 => ?_) (fun c24 => ?_)
      · have h := h.1 c24
        refine j_iconst E (v := 0) dX8_mindsFeud_128 (by decide) ?_
        exact j_zreturn E (Or.inl rfl) ⟨rfl, _, rfl, (Or.inl rfl), h⟩ (Nat.zero_le _) (Nat.zero_le _) dX8_mindsFeud_129
      · have h := h.2 c24
        refine j_iload E dX8_mindsFeud_44 4 rfl ?_
        refine j_iconst E (v := 1) dX8_mindsFeud_46 (by decide) ?_
        refine j_iadd E dX8_mindsFeud_47 ?_
        refine j_topi (fun x25 ex25 => ?_)
        have h := h x25 ex25
        refine j_istore E 5 [(5, .int x25), (0, .ref v0), (1, .int v1), (2, .int v2), (3, .int v3), (4, .int v4)] dX8_mindsFeud_48 (by decide) rfl ?_
        obtain ⟨n26, h⟩ := h
        refine j_sub [1, 2, 3, 4, 5, 0] rfl ?_
        exact m_X8_mindsFeud_L50 E hZ K31 hK31 n26 v0 v1 v2 v3 v4 x25 I L kv0 h
set_option maxRecDepth 100000 in
def f_X8_mindsFeud_b27  (Z : jZ) (Q : Int32 → jI → jL → Prop) (v0 : Nat) (v1 : Int32) (v2 : Int32) (s0 : Int32) (I : jI) (L : jL) : Prop := (∃ m31 : Nat, f_X8_mindsFeud_L31  Z Q m31 v0 v1 v2 s0 (0 : Int32) I L)
set_option maxHeartbeats 4000000 in
set_option maxRecDepth 100000 in
theorem m_X8_mindsFeud_b27 {G : jG} {Z : jZ} {Q : Int32 → jI → jL → Prop} (E : jE G cX8_mindsFeud RX8 w_X8_mindsFeud 8 (some .boolean) { frames := 2, cells := 0, slots := 0, locals := 41 } (rtZ Z Q)) (hZ : SH Z)  (v0 : Nat) (v1 : Int32) (v2 : Int32) (s0 : Int32) (I : jI) (L : jL) (kv0 : jk Z v0 8) (h : f_X8_mindsFeud_b27  Z Q v0 v1 v2 s0 I L) : jJ G 8 27 [(0, .ref v0), (1, .int v1), (2, .int v2)] [.int s0] Z I L 0 0 := by
  refine j_istore_n E 3 [(3, .int s0), (0, .ref v0), (1, .int v1), (2, .int v2)] dX8_mindsFeud_27 rfl (by decide) rfl ?_
  refine j_iconst E (v := 0) dX8_mindsFeud_28 (by decide) ?_
  refine j_istore E 4 [(4, .int (0 : Int32)), (3, .int s0), (0, .ref v0), (1, .int v1), (2, .int v2)] dX8_mindsFeud_29 (by decide) rfl ?_
  obtain ⟨n27, h⟩ := h
  refine j_sub [2, 3, 4, 1, 0] rfl ?_
  exact m_X8_mindsFeud_L31 E hZ  n27 v0 v1 v2 s0 (0 : Int32) I L kv0 h
set_option maxRecDepth 100000 in
def f_X8_mindsFeud_b22  (Z : jZ) (Q : Int32 → jI → jL → Prop) (v0 : Nat) (v1 : Int32) (v2 : Int32) (I : jI) (L : jL) : Prop := f_X8_mindsFeud_b27  Z Q v0 v1 v2 (1 : Int32) I L
set_option maxHeartbeats 4000000 in
set_option maxRecDepth 100000 in
theorem m_X8_mindsFeud_b22 {G : jG} {Z : jZ} {Q : Int32 → jI → jL → Prop} (E : jE G cX8_mindsFeud RX8 w_X8_mindsFeud 8 (some .boolean) { frames := 2, cells := 0, slots := 0, locals := 41 } (rtZ Z Q)) (hZ : SH Z)  (v0 : Nat) (v1 : Int32) (v2 : Int32) (I : jI) (L : jL) (kv0 : jk Z v0 8) (h : f_X8_mindsFeud_b22  Z Q v0 v1 v2 I L) : jJ G 8 22 [(0, .ref v0), (1, .int v1), (2, .int v2)] [] Z I L 0 0 := by
  refine j_iconst E (v := 1) dX8_mindsFeud_22 (by decide) ?_
  refine j_goto E 27 dX8_mindsFeud_23 (by decide) ?_
  refine j_sub [0, 1, 2] rfl ?_
  exact m_X8_mindsFeud_b27 E hZ  v0 v1 v2 (1 : Int32) I L kv0 h
set_option maxRecDepth 100000 in
def f_X8_mindsFeud (v0 : Nat) (v1 : Int32) (v2 : Int32) (Z : jZ) (I : jI) (L : jL) (Q : Int32 → jI → jL → Prop) : Prop := (∀ b28 : Nat, jr Z v0 6 = some b28 → (f_X3_names b28 (4 : Int32) Z I L (fun r34 I31 L32 => ((¬ r34 = 0 → f_X8_mindsFeud_b22  Z Q v0 v1 v2 I31 L32) ∧ (r34 = 0 → (∀ b36 : Nat, jr Z v0 7 = some b36 → (f_X3_names b36 (4 : Int32) Z I31 L32 (fun r42 I39 L40 => ((r42 = 0 → f_X8_mindsFeud_b27  Z Q v0 v1 v2 (0 : Int32) I39 L40) ∧ (¬ (r42 = 0) → f_X8_mindsFeud_b22  Z Q v0 v1 v2 I39 L40))))))))))
set_option maxHeartbeats 4000000 in
set_option maxRecDepth 100000 in
theorem c_X8_mindsFeud (l : Launch) (D : va_G) (cy : jC) (v0 : Nat) (v1 : Int32) (v2 : Int32) (Z : jZ) (I : jI) (L : jL) (Q : Int32 → jI → jL → Prop) (hZ : SH Z) (kv0 : jk Z v0 8) (h : f_X8_mindsFeud v0 v1 v2 Z I L Q) : jCt l yX8_mindsFeud w_X8_mindsFeud { frames := 2, cells := 0, slots := 0, locals := 41 } D cy [.ref v0, .int v1, .int v2] Z I L (rtZ Z Q) := by
  refine jCt_of (cc := cX8_mindsFeud) (maxL := 8) (ret := (some .boolean)) (by decide +kernel) rfl (Nat.le_of_ble_eq_true rfl) ?_
  intro G eD eY eL E
  subst eD; subst eY; subst eL
  have E : jE G cX8_mindsFeud RX8 w_X8_mindsFeud 8 (some .boolean) { frames := 2, cells := 0, slots := 0, locals := 41 } (rtZ Z Q) := E
  show jJ G 8 0 [(0, .ref v0), (1, .int v1), (2, .int v2)] [] Z I L 0 0
  refine j_aload_n E dX8_mindsFeud_0 0 rfl ?_
  obtain ⟨b28, eb28, kb28⟩ := sh_o hZ kv0 (j := 6) (k := 3) rfl
  have h := h b28 eb28
  refine j_getr E 8 6 rfl rfl (by decide) (by decide) (iw iT_8) rfl rfl (tw W_275) kv0 eb28 dX8_mindsFeud_1 ?_
  refine j_iconst E (v := 4) dX8_mindsFeud_4 (by decide) ?_
  refine j_callV E [.int (4 : Int32)] [] (c_X3_names (gL G) (gD G) (gY G) b28 (4 : Int32) Z I L _ hZ kb28 h) (gwV W_334 W_335 W_336 W_173 W_333) rfl ⟨rfl, fy_X3_names⟩ ⟨by decide, by decide⟩ (c := 3) rfl (by decide) kb28 rfl rfl (Nat.le_of_ble_eq_true rfl) ⟨Nat.zero_le _, Nat.zero_le _⟩ dX8_mindsFeud_5 (fun v29 Z30 I31 L32 q33 => ?_)
  obtain ⟨rfl, r34, rfl, zr34, h⟩ := q33
  show jJ G 8 8 [(0, .ref v0), (1, .int v1), (2, .int v2)] [.int r34] Z I31 L32 0 0
  refine j_if_ne E 22 dX8_mindsFeud_8 (by decide) (fun c35 => ?_) (fun c35 => ?_)
  · have h := h.1 c35
    refine j_sub [0, 1, 2] rfl ?_
    exact m_X8_mindsFeud_b22 E hZ  v0 v1 v2 I31 L32 kv0 h
  · have h := h.2 c35
    refine j_aload_n E dX8_mindsFeud_11 0 rfl ?_
    obtain ⟨b36, eb36, kb36⟩ := sh_o hZ kv0 (j := 7) (k := 3) rfl
    have h := h b36 eb36
    refine j_getr E 8 7 rfl rfl (by decide) (by decide) (iw iT_8) rfl rfl (tw W_274) kv0 eb36 dX8_mindsFeud_12 ?_
    refine j_iconst E (v := 4) dX8_mindsFeud_15 (by decide) ?_
    refine j_callV E [.int (4 : Int32)] [] (c_X3_names (gL G) (gD G) (gY G) b36 (4 : Int32) Z I31 L32 _ hZ kb36 h) (gwV W_334 W_335 W_336 W_173 W_333) rfl ⟨rfl, fy_X3_names⟩ ⟨by decide, by decide⟩ (c := 3) rfl (by decide) kb36 rfl rfl (Nat.le_of_ble_eq_true rfl) ⟨Nat.zero_le _, Nat.zero_le _⟩ dX8_mindsFeud_16 (fun v37 Z38 I39 L40 q41 => ?_)
    obtain ⟨rfl, r42, rfl, zr42, h⟩ := q41
    show jJ G 8 19 [(0, .ref v0), (1, .int v1), (2, .int v2)] [.int r42] Z I39 L40 0 0
    refine j_if_eq E 26 dX8_mindsFeud_19 (by decide) (fun c43 => ?_) (fun c43 => ?_)
    · have h := h.1 c43
      refine j_iconst E (v := 0) dX8_mindsFeud_26 (by decide) ?_
      refine j_sub [0, 1, 2] rfl ?_
      exact m_X8_mindsFeud_b27 E hZ  v0 v1 v2 (0 : Int32) I39 L40 kv0 h
    · have h := h.2 c43
      refine j_sub [0, 1, 2] rfl ?_
      exact m_X8_mindsFeud_b22 E hZ  v0 v1 v2 I39 L40 kv0 h
set_option maxRecDepth 100000 in
def f_X9_fail (v0 : Nat) (v1 : Int32) (Z : jZ) (I : jI) (L : jL) (Q : Int32 → jI → jL → Prop) : Prop := (∀ I1 : jI, I1 = jpI I v0 8 v1 → Q (0 : Int32) I1 L)
set_option maxHeartbeats 4000000 in
set_option maxRecDepth 100000 in
theorem c_X9_fail (l : Launch) (D : va_G) (cy : jC) (v0 : Nat) (v1 : Int32) (Z : jZ) (I : jI) (L : jL) (Q : Int32 → jI → jL → Prop) (hZ : SH Z) (kv0 : jk Z v0 9) (h : f_X9_fail v0 v1 Z I L Q) : jCt l yX9_fail w_X9_fail { frames := 0, cells := 0, slots := 0, locals := 0 } D cy [.ref v0, .int v1] Z I L (rtZ Z Q) := by
  refine jCt_of (cc := cX9_fail) (maxL := 2) (ret := (some .boolean)) (by decide +kernel) rfl (Nat.le_of_ble_eq_true rfl) ?_
  intro G eD eY eL E
  subst eD; subst eY; subst eL
  have E : jE G cX9_fail RX9 w_X9_fail 2 (some .boolean) { frames := 0, cells := 0, slots := 0, locals := 0 } (rtZ Z Q) := E
  show jJ G 2 0 [(0, .ref v0), (1, .int v1)] [] Z I L 0 0
  refine j_aload_n E dX9_fail_0 0 rfl ?_
  refine j_iload_n E dX9_fail_1 1 rfl ?_
  refine j_puti E 9 8 rfl rfl (by decide) (by decide) (iw iT_9) tyX9_ok nmX9 rfl rfl (tw W_357) rfl rfl rfl kv0 dX9_fail_2 ?_
  refine j_nmI (fun I1 eI1 => ?_)
  have h := h I1 eI1
  refine j_iconst E (v := 0) dX9_fail_5 (by decide) ?_
  exact j_zreturn E (Or.inl rfl) ⟨rfl, _, rfl, (Or.inl rfl), h⟩ (Nat.zero_le _) (Nat.zero_le _) dX9_fail_6
set_option maxRecDepth 100000 in
def f_X9_look (v0 : Nat) (v1 : Nat) (Z : jZ) (I : jI) (L : jL) (Q : Int32 → jI → jL → Prop) : Prop := (((I v0 7) ≤ (I v0 6) → Q (-1 : Int32) I L) ∧ (¬ ((I v0 7) ≤ (I v0 6)) → (f_X10_signAt v1 (I v0 6) Z I L (fun r7 I4 L5 => Q r7 I4 L5))))
set_option maxHeartbeats 4000000 in
set_option maxRecDepth 100000 in
theorem c_X9_look (l : Launch) (D : va_G) (cy : jC) (v0 : Nat) (v1 : Nat) (Z : jZ) (I : jI) (L : jL) (Q : Int32 → jI → jL → Prop) (hZ : SH Z) (kv0 : jk Z v0 9) (kv1 : jk Z v1 10) (h : f_X9_look v0 v1 Z I L Q) : jCt l yX9_look w_X9_look { frames := 1, cells := 0, slots := 0, locals := 21 } D cy [.ref v0, .ref v1] Z I L (rtI Z Q) := by
  refine jCt_of (cc := cX9_look) (maxL := 2) (ret := (some .int)) (by decide +kernel) rfl (Nat.le_of_ble_eq_true rfl) ?_
  intro G eD eY eL E
  subst eD; subst eY; subst eL
  have E : jE G cX9_look RX9 w_X9_look 2 (some .int) { frames := 1, cells := 0, slots := 0, locals := 21 } (rtI Z Q) := E
  show jJ G 2 0 [(0, .ref v0), (1, .ref v1)] [] Z I L 0 0
  refine j_aload_n E dX9_look_0 0 rfl ?_
  refine j_geti E 9 6 rfl rfl (by decide) (by decide) (iw iT_9) rfl rfl (tw W_358) kv0 dX9_look_1 ?_
  refine j_aload_n E dX9_look_4 0 rfl ?_
  refine j_geti E 9 7 rfl rfl (by decide) (by decide) (iw iT_9) rfl rfl (tw W_359) kv0 dX9_look_5 ?_
  refine j_icmp_ge E 22 dX9_look_8 (by decide) (fun c1 => ?_) (fun c1 => ?_)
  · have h := h.1 c1
    refine j_iconst E (v := -1) dX9_look_22 (by decide) ?_
    exact j_ireturn E ⟨rfl, _, rfl, h⟩ (Nat.zero_le _) (Nat.zero_le _) dX9_look_23
  · have h := h.2 c1
    refine j_aload_n E dX9_look_11 1 rfl ?_
    refine j_aload_n E dX9_look_12 0 rfl ?_
    refine j_geti E 9 6 rfl rfl (by decide) (by decide) (iw iT_9) rfl rfl (tw W_358) kv0 dX9_look_13 ?_
    refine j_callV E [.int (I v0 6)] [] (c_X10_signAt (gL G) (gD G) (gY G) v1 (I v0 6) Z I L _ hZ kv1 h) (gwV W_360 W_185 W_186 W_183 W_182) rfl ⟨rfl, fy_X10_signAt⟩ ⟨by decide, by decide⟩ (c := 10) rfl (by decide) kv1 rfl rfl (Nat.le_of_ble_eq_true rfl) ⟨Nat.zero_le _, Nat.zero_le _⟩ dX9_look_16 (fun v2 Z3 I4 L5 q6 => ?_)
    obtain ⟨rfl, r7, rfl, h⟩ := q6
    show jJ G 2 19 [(0, .ref v0), (1, .ref v1)] [.int r7] Z I4 L5 0 0
    refine j_goto E 23 dX9_look_19 (by decide) ?_
    exact j_ireturn E ⟨rfl, _, rfl, h⟩ (Nat.zero_le _) (Nat.zero_le _) dX9_look_23
set_option maxRecDepth 100000 in
def f_X9_readNumber_b107  (Z : jZ) (Q : Int32 → jI → jL → Prop) (v4 : Int32) (v6 : Int32) (I : jI) (L : jL) : Prop := ((v6 = 0 → Q (-1 : Int32) I L) ∧ (¬ (v6 = 0) → Q v4 I L))
set_option maxHeartbeats 4000000 in
set_option maxRecDepth 100000 in
theorem m_X9_readNumber_b107 {G : jG} {Z : jZ} {Q : Int32 → jI → jL → Prop} (E : jE G cX9_readNumber RX9 w_X9_readNumber 7 (some .int) { frames := 2, cells := 0, slots := 0, locals := 42 } (rtI Z Q)) (hZ : SH Z)  (v4 : Int32) (v6 : Int32) (I : jI) (L : jL)  (h : f_X9_readNumber_b107  Z Q v4 v6 I L) : jJ G 7 107 [(4, .int v4), (6, .int v6)] [] Z I L 0 0 := by
  refine j_iload E dX9_readNumber_107 1 rfl ?_
  refine j_if_eq E 117 dX9_readNumber_109 (by decide) (fun c1 => ?_) (fun c1 => ?_)
  · have h := h.1 c1
    refine j_iconst E (v := -1) dX9_readNumber_117 (by decide) ?_
    exact j_ireturn E ⟨rfl, _, rfl, h⟩ (Nat.zero_le _) (Nat.zero_le _) dX9_readNumber_118
  · have h := h.2 c1
    refine j_iload E dX9_readNumber_112 0 rfl ?_
    refine j_goto E 118 dX9_readNumber_114 (by decide) ?_
    exact j_ireturn E ⟨rfl, _, rfl, h⟩ (Nat.zero_le _) (Nat.zero_le _) dX9_readNumber_118
set_option maxRecDepth 100000 in
def f_X9_readNumber_b103  (Z : jZ) (Q : Int32 → jI → jL → Prop) (v4 : Int32) (v6 : Int32) (s0 : Nat) (s1 : Int32) (I : jI) (L : jL) : Prop := (f_X9_fail s0 s1 Z I L (fun r7 I4 L5 => f_X9_readNumber_b107  Z Q v4 v6 I4 L5))
set_option maxHeartbeats 4000000 in
set_option maxRecDepth 100000 in
theorem m_X9_readNumber_b103 {G : jG} {Z : jZ} {Q : Int32 → jI → jL → Prop} (E : jE G cX9_readNumber RX9 w_X9_readNumber 7 (some .int) { frames := 2, cells := 0, slots := 0, locals := 42 } (rtI Z Q)) (hZ : SH Z)  (v4 : Int32) (v6 : Int32) (s0 : Nat) (s1 : Int32) (I : jI) (L : jL) (ks0 : jk Z s0 9) (h : f_X9_readNumber_b103  Z Q v4 v6 s0 s1 I L) : jJ G 7 103 [(4, .int v4), (6, .int v6)] [.int s1, .ref s0] Z I L 0 0 := by
  refine j_callV E [.int s1] [] (c_X9_fail (gL G) (gD G) (gY G) s0 s1 Z I L _ hZ ks0 h) (gwV W_363 W_364 W_365 W_362 W_361) rfl ⟨rfl, fy_X9_fail⟩ ⟨by decide, by decide⟩ (c := 9) rfl (by decide) ks0 rfl rfl (Nat.le_of_ble_eq_true rfl) ⟨Nat.zero_le _, Nat.zero_le _⟩ dX9_readNumber_103 (fun v2 Z3 I4 L5 q6 => ?_)
  obtain ⟨rfl, r7, rfl, zr7, h⟩ := q6
  show jJ G 7 106 [(4, .int v4), (6, .int v6)] [.int r7] Z I4 L5 0 0
  refine j_pop E dX9_readNumber_106 rfl ?_
  refine j_sub [0, 1] rfl ?_
  exact m_X9_readNumber_b107 E hZ  v4 v6 I4 L5  h
set_option maxRecDepth 100000 in
def f_X9_readNumber_b77  (Z : jZ) (Q : Int32 → jI → jL → Prop) (v0 : Nat) (v4 : Int32) (v5 : Int32) (s0 : Int32) (I : jI) (L : jL) : Prop := ((¬ s0 = 0 → f_X9_readNumber_b107  Z Q v4 s0 I L) ∧ (s0 = 0 → ((¬ v5 = 0 → f_X9_readNumber_b103  Z Q v4 s0 v0 ((I v0 6) - (1 : Int32)) I L) ∧ (v5 = 0 → f_X9_readNumber_b103  Z Q v4 s0 v0 (I v0 6) I L))))
set_option maxHeartbeats 4000000 in
set_option maxRecDepth 100000 in
theorem m_X9_readNumber_b77 {G : jG} {Z : jZ} {Q : Int32 → jI → jL → Prop} (E : jE G cX9_readNumber RX9 w_X9_readNumber 7 (some .int) { frames := 2, cells := 0, slots := 0, locals := 42 } (rtI Z Q)) (hZ : SH Z)  (v0 : Nat) (v4 : Int32) (v5 : Int32) (s0 : Int32) (I : jI) (L : jL) (kv0 : jk Z v0 9) (h : f_X9_readNumber_b77  Z Q v0 v4 v5 s0 I L) : jJ G 7 77 [(0, .ref v0), (4, .int v4), (5, .int v5)] [.int s0] Z I L 0 0 := by
  refine j_istore E 6 [(6, .int s0), (0, .ref v0), (4, .int v4), (5, .int v5)] dX9_readNumber_77 (by decide) rfl ?_
  refine j_iload E dX9_readNumber_79 0 rfl ?_
  refine j_if_ne E 107 dX9_readNumber_81 (by decide) (fun c8 => ?_) (fun c8 => ?_)
  · have h := h.1 c8
    refine j_sub [2, 0] rfl ?_
    exact m_X9_readNumber_b107 E hZ  v4 s0 I L  h
  · have h := h.2 c8
    refine j_aload_n E dX9_readNumber_84 1 rfl ?_
    refine j_iload E dX9_readNumber_85 3 rfl ?_
    refine j_if_ne E 97 dX9_readNumber_87 (by decide) (fun c9 => ?_) (fun c9 => ?_)
    · have h := h.1 c9
      refine j_aload_n E dX9_readNumber_97 1 rfl ?_
      refine j_geti E 9 6 rfl rfl (by decide) (by decide) (iw iT_9) rfl rfl (tw W_358) kv0 dX9_readNumber_98 ?_
      refine j_iconst E (v := 1) dX9_readNumber_101 (by decide) ?_
      refine j_isub E dX9_readNumber_102 ?_
      refine j_sub [2, 0] rfl ?_
      exact m_X9_readNumber_b103 E hZ  v4 s0 v0 ((I v0 6) - (1 : Int32)) I L kv0 h
    · have h := h.2 c9
      refine j_aload_n E dX9_readNumber_90 1 rfl ?_
      refine j_geti E 9 6 rfl rfl (by decide) (by decide) (iw iT_9) rfl rfl (tw W_358) kv0 dX9_readNumber_91 ?_
      refine j_goto E 103 dX9_readNumber_94 (by decide) ?_
      refine j_sub [2, 0] rfl ?_
      exact m_X9_readNumber_b103 E hZ  v4 s0 v0 (I v0 6) I L kv0 h
set_option maxRecDepth 100000 in
def f_X9_readNumber_b76  (Z : jZ) (Q : Int32 → jI → jL → Prop) (v0 : Nat) (v4 : Int32) (v5 : Int32) (I : jI) (L : jL) : Prop := f_X9_readNumber_b77  Z Q v0 v4 v5 (0 : Int32) I L
set_option maxHeartbeats 4000000 in
set_option maxRecDepth 100000 in
theorem m_X9_readNumber_b76 {G : jG} {Z : jZ} {Q : Int32 → jI → jL → Prop} (E : jE G cX9_readNumber RX9 w_X9_readNumber 7 (some .int) { frames := 2, cells := 0, slots := 0, locals := 42 } (rtI Z Q)) (hZ : SH Z)  (v0 : Nat) (v4 : Int32) (v5 : Int32) (I : jI) (L : jL) (kv0 : jk Z v0 9) (h : f_X9_readNumber_b76  Z Q v0 v4 v5 I L) : jJ G 7 76 [(0, .ref v0), (4, .int v4), (5, .int v5)] [] Z I L 0 0 := by
  refine j_iconst E (v := 0) dX9_readNumber_76 (by decide) ?_
  refine j_sub [0, 1, 2] rfl ?_
  exact m_X9_readNumber_b77 E hZ  v0 v4 v5 (0 : Int32) I L kv0 h
set_option maxRecDepth 100000 in
def f_X9_readNumber_b55  (Z : jZ) (Q : Int32 → jI → jL → Prop) (v0 : Nat) (v2 : Int32) (v3 : Int32) (v4 : Int32) (v5 : Int32) (I : jI) (L : jL) : Prop := ((v5 ≤ 0 → f_X9_readNumber_b76  Z Q v0 v4 v5 I L) ∧ (¬ (v5 ≤ 0) → ((v4 < v2 → f_X9_readNumber_b76  Z Q v0 v4 v5 I L) ∧ (¬ (v4 < v2) → ((v3 < v4 → f_X9_readNumber_b76  Z Q v0 v4 v5 I L) ∧ (¬ (v3 < v4) → f_X9_readNumber_b77  Z Q v0 v4 v5 (1 : Int32) I L))))))
set_option maxHeartbeats 4000000 in
set_option maxRecDepth 100000 in
theorem m_X9_readNumber_b55 {G : jG} {Z : jZ} {Q : Int32 → jI → jL → Prop} (E : jE G cX9_readNumber RX9 w_X9_readNumber 7 (some .int) { frames := 2, cells := 0, slots := 0, locals := 42 } (rtI Z Q)) (hZ : SH Z)  (v0 : Nat) (v2 : Int32) (v3 : Int32) (v4 : Int32) (v5 : Int32) (I : jI) (L : jL) (kv0 : jk Z v0 9) (h : f_X9_readNumber_b55  Z Q v0 v2 v3 v4 v5 I L) : jJ G 7 55 [(0, .ref v0), (2, .int v2), (3, .int v3), (4, .int v4), (5, .int v5)] [] Z I L 0 0 := by
  refine j_iload E dX9_readNumber_55 4 rfl ?_
  refine j_if_le E 76 dX9_readNumber_57 (by decide) (fun c10 => ?_) (fun c10 => ?_)
  · have h := h.1 c10
    refine j_sub [0, 3, 4] rfl ?_
    exact m_X9_readNumber_b76 E hZ  v0 v4 v5 I L kv0 h
  · have h := h.2 c10
    refine j_iload E dX9_readNumber_60 3 rfl ?_
    refine j_iload_n E dX9_readNumber_62 1 rfl ?_
    refine j_icmp_lt E 76 dX9_readNumber_63 (by decide) (fun c11 => ?_) (fun c11 => ?_)
    · have h := h.1 c11
      refine j_sub [0, 3, 4] rfl ?_
      exact m_X9_readNumber_b76 E hZ  v0 v4 v5 I L kv0 h
    · have h := h.2 c11
      refine j_iload E dX9_readNumber_66 3 rfl ?_
      refine j_iload_n E dX9_readNumber_68 2 rfl ?_
      refine j_icmp_gt E 76 dX9_readNumber_69 (by decide) (fun c12 => ?_) (fun c12 => ?_)
      · have h := h.1 c12
        refine j_sub [0, 3, 4] rfl ?_
        exact m_X9_readNumber_b76 E hZ  v0 v4 v5 I L kv0 h
      · have h := h.2 c12
        refine j_iconst E (v := 1) dX9_readNumber_72 (by decide) ?_
        refine j_goto E 77 dX9_readNumber_73 (by decide) ?_
        refine j_sub [0, 3, 4] rfl ?_
        exact m_X9_readNumber_b77 E hZ  v0 v4 v5 (1 : Int32) I L kv0 h
set_option maxRecDepth 100000 in
def f_X9_readNumber_L6  (Z : jZ) (Q : Int32 → jI → jL → Prop) : Nat → Nat → Nat → Int32 → Int32 → Int32 → Int32 → jI → jL → Prop
  | 0 => fun _ _ _ _ _ _ _ _ => False
  | n + 1 => fun v0 v1 v2 v3 v4 v5 I L => (((2 : Int32) ≤ v5 → f_X9_readNumber_b55  Z Q v0 v2 v3 v4 v5 I L) ∧ (¬ ((2 : Int32) ≤ v5) → (f_X9_look v0 v1 Z I L (fun r19 I16 L17 => (f_X10_isDigit r19 Z I16 L17 (fun r25 I22 L23 => ((r25 = 0 → f_X9_readNumber_b55  Z Q v0 v2 v3 v4 v5 I22 L23) ∧ (¬ (r25 = 0) → (f_X9_look v0 v1 Z I22 L23 (fun r32 I29 L30 => (∀ x33 : Int32, x33 = (((v4 * (10 : Int32)) + r32) - (48 : Int32)) → (∀ I34 : jI, I34 = jpI I29 v0 6 ((I29 v0 6) + (1 : Int32)) → (∀ x35 : Int32, x35 = v5 + 1 → (f_X9_readNumber_L6 Z Q n) v0 v1 v2 v3 x33 x35 I34 L30)))))))))))))
set_option maxHeartbeats 4000000 in
set_option maxRecDepth 100000 in
theorem m_X9_readNumber_L6 {G : jG} {Z : jZ} {Q : Int32 → jI → jL → Prop} (E : jE G cX9_readNumber RX9 w_X9_readNumber 7 (some .int) { frames := 2, cells := 0, slots := 0, locals := 42 } (rtI Z Q)) (hZ : SH Z)  : ∀ (n : Nat) (v0 : Nat) (v1 : Nat) (v2 : Int32) (v3 : Int32) (v4 : Int32) (v5 : Int32) (I : jI) (L : jL), jk Z v0 9 → jk Z v1 10 → f_X9_readNumber_L6  Z Q n v0 v1 v2 v3 v4 v5 I L → jJ G 7 6 [(0, .ref v0), (1, .ref v1), (2, .int v2), (3, .int v3), (4, .int v4), (5, .int v5)] [] Z I L 0 0 := by
  intro n
  induction n with
  | zero => intro v0 v1 v2 v3 v4 v5 I L _ _ h; exact h.elim
  | succ n ih =>
    intro v0 v1 v2 v3 v4 v5 I L kv0 kv1 h
    have h : (((2 : Int32) ≤ v5 → f_X9_readNumber_b55  Z Q v0 v2 v3 v4 v5 I L) ∧ (¬ ((2 : Int32) ≤ v5) → (f_X9_look v0 v1 Z I L (fun r19 I16 L17 => (f_X10_isDigit r19 Z I16 L17 (fun r25 I22 L23 => ((r25 = 0 → f_X9_readNumber_b55  Z Q v0 v2 v3 v4 v5 I22 L23) ∧ (¬ (r25 = 0) → (f_X9_look v0 v1 Z I22 L23 (fun r32 I29 L30 => (∀ x33 : Int32, x33 = (((v4 * (10 : Int32)) + r32) - (48 : Int32)) → (∀ I34 : jI, I34 = jpI I29 v0 6 ((I29 v0 6) + (1 : Int32)) → (∀ x35 : Int32, x35 = v5 + 1 → (f_X9_readNumber_L6 Z Q n) v0 v1 v2 v3 x33 x35 I34 L30))))))))))))) := h
    obtain ⟨K6, eK6⟩ : ∃ K : Nat → Nat → Int32 → Int32 → Int32 → Int32 → jI → jL → Prop, K = f_X9_readNumber_L6  Z Q n := ⟨_, rfl⟩
    have hK6 := ih
    clear eK6 K6
    generalize f_X9_readNumber_L6  Z Q n = K6 at hK6 h
    refine j_iload E dX9_readNumber_6 5 rfl ?_
    refine j_iconst E (v := 2) dX9_readNumber_8 (by decide) ?_
    refine j_icmp_ge E 55 dX9_readNumber_9 (by decide) (fun c13 => ?_) (fun c13 => ?_)
    · have h := h.1 c13
      refine j_sub [0, 2, 3, 4, 5] rfl ?_
      exact m_X9_readNumber_b55 E hZ  v0 v2 v3 v4 v5 I L kv0 h
    · have h := h.2 c13
      refine j_aload_n E dX9_readNumber_12 0 rfl ?_
      refine j_aload_n E dX9_readNumber_13 1 rfl ?_
      refine j_callV E [.ref v1] [] (c_X9_look (gL G) (gD G) (gY G) v0 v1 Z I L _ hZ kv0 kv1 h) (gwV W_367 W_368 W_369 W_362 W_366) rfl ⟨rfl, fy_X9_look⟩ ⟨by decide, by decide⟩ (c := 9) rfl (by decide) kv0 rfl rfl (Nat.le_of_ble_eq_true rfl) ⟨Nat.zero_le _, Nat.zero_le _⟩ dX9_readNumber_14 (fun v14 Z15 I16 L17 q18 => ?_)
      obtain ⟨rfl, r19, rfl, h⟩ := q18
      show jJ G 7 17 [(0, .ref v0), (1, .ref v1), (2, .int v2), (3, .int v3), (4, .int v4), (5, .int v5)] [.int r19] Z I16 L17 0 0
      refine j_callS E [.int r19] [] (c_X10_isDigit (gL G) (gD G) (gY G) r19 Z I16 L17 _ hZ  h) (gwS W_370 W_200 W_183 W_198) rfl fy_X10_isDigit ⟨by decide, by decide⟩ rfl rfl (Nat.le_of_ble_eq_true rfl) ⟨Nat.zero_le _, Nat.zero_le _⟩ dX9_readNumber_17 (fun v20 Z21 I22 L23 q24 => ?_)
      obtain ⟨rfl, r25, rfl, zr25, h⟩ := q24
      show jJ G 7 20 [(0, .ref v0), (1, .ref v1), (2, .int v2), (3, .int v3), (4, .int v4), (5, .int v5)] [.int r25] Z I22 L23 0 0
      refine j_if_eq E 55 dX9_readNumber_20 (by decide) (fun c26 => ?_) (fun c26 => ?_)
      · have h := h.1 c26
        refine j_sub [0, 2, 3, 4, 5] rfl ?_
        exact m_X9_readNumber_b55 E hZ  v0 v2 v3 v4 v5 I22 L23 kv0 h
      · have h := h.2 c26
        refine j_iload E dX9_readNumber_23 4 rfl ?_
        refine j_bipush E (v := 10) dX9_readNumber_25 (by decide) ?_
        refine j_imul E dX9_readNumber_27 ?_
        refine j_aload_n E dX9_readNumber_28 0 rfl ?_
        refine j_aload_n E dX9_readNumber_29 1 rfl ?_
        refine j_callV E [.ref v1] [.int (v4 * (10 : Int32))] (c_X9_look (gL G) (gD G) (gY G) v0 v1 Z I22 L23 _ hZ kv0 kv1 h) (gwV W_367 W_368 W_369 W_362 W_366) rfl ⟨rfl, fy_X9_look⟩ ⟨by decide, by decide⟩ (c := 9) rfl (by decide) kv0 rfl rfl (Nat.le_of_ble_eq_true rfl) ⟨Nat.zero_le _, Nat.zero_le _⟩ dX9_readNumber_30 (fun v27 Z28 I29 L30 q31 => ?_)
        obtain ⟨rfl, r32, rfl, h⟩ := q31
        show jJ G 7 33 [(0, .ref v0), (1, .ref v1), (2, .int v2), (3, .int v3), (4, .int v4), (5, .int v5)] [.int r32, .int (v4 * (10 : Int32))] Z I29 L30 0 0
        refine j_iadd E dX9_readNumber_33 ?_
        refine j_bipush E (v := 48) dX9_readNumber_34 (by decide) ?_
        refine j_isub E dX9_readNumber_36 ?_
        refine j_topi (fun x33 ex33 => ?_)
        have h := h x33 ex33
        refine j_istore E 4 [(4, .int x33), (0, .ref v0), (1, .ref v1), (2, .int v2), (3, .int v3), (5, .int v5)] dX9_readNumber_37 (by decide) rfl ?_
        refine j_aload_n E dX9_readNumber_39 1 rfl ?_
        refine j_dup E dX9_readNumber_40 rfl ?_
        refine j_geti E 9 6 rfl rfl (by decide) (by decide) (iw iT_9) rfl rfl (tw W_358) kv0 dX9_readNumber_41 ?_
        refine j_iconst E (v := 1) dX9_readNumber_44 (by decide) ?_
        refine j_iadd E dX9_readNumber_45 ?_
        refine j_puti E 9 6 rfl rfl (by decide) (by decide) (iw iT_9) tyX9_ok nmX9 rfl rfl (tw W_358) rfl rfl rfl kv0 dX9_readNumber_46 ?_
        refine j_nmI (fun I34 eI34 => ?_)
        have h := h I34 eI34
        obtain ⟨x35, ex35⟩ : ∃ y : Int32, y = v5 + 1 := ⟨_, rfl⟩
        have h := h x35 ex35
        refine j_iinc E x35 [(5, .int x35), (4, .int x33), (0, .ref v0), (1, .ref v1), (2, .int v2), (3, .int v3)] dX9_readNumber_49 5 rfl (by rw [ex35]; rfl) (by decide) rfl ?_
        refine j_goto E 6 dX9_readNumber_52 (by decide) ?_
        refine j_sub [2, 3, 4, 5, 1, 0] rfl ?_
        exact hK6 v0 v1 v2 v3 x33 x35 I34 L30 kv0 kv1 h
set_option maxRecDepth 100000 in
def f_X9_readNumber (v0 : Nat) (v1 : Nat) (v2 : Int32) (v3 : Int32) (Z : jZ) (I : jI) (L : jL) (Q : Int32 → jI → jL → Prop) : Prop := (∃ m6 : Nat, f_X9_readNumber_L6  Z Q m6 v0 v1 v2 v3 (0 : Int32) (0 : Int32) I L)
set_option maxHeartbeats 4000000 in
set_option maxRecDepth 100000 in
theorem c_X9_readNumber (l : Launch) (D : va_G) (cy : jC) (v0 : Nat) (v1 : Nat) (v2 : Int32) (v3 : Int32) (Z : jZ) (I : jI) (L : jL) (Q : Int32 → jI → jL → Prop) (hZ : SH Z) (kv0 : jk Z v0 9) (kv1 : jk Z v1 10) (h : f_X9_readNumber v0 v1 v2 v3 Z I L Q) : jCt l yX9_readNumber w_X9_readNumber { frames := 2, cells := 0, slots := 0, locals := 42 } D cy [.ref v0, .ref v1, .int v2, .int v3] Z I L (rtI Z Q) := by
  refine jCt_of (cc := cX9_readNumber) (maxL := 7) (ret := (some .int)) (by decide +kernel) rfl (Nat.le_of_ble_eq_true rfl) ?_
  intro G eD eY eL E
  subst eD; subst eY; subst eL
  have E : jE G cX9_readNumber RX9 w_X9_readNumber 7 (some .int) { frames := 2, cells := 0, slots := 0, locals := 42 } (rtI Z Q) := E
  show jJ G 7 0 [(0, .ref v0), (1, .ref v1), (2, .int v2), (3, .int v3)] [] Z I L 0 0
  refine j_iconst E (v := 0) dX9_readNumber_0 (by decide) ?_
  refine j_istore E 4 [(4, .int (0 : Int32)), (0, .ref v0), (1, .ref v1), (2, .int v2), (3, .int v3)] dX9_readNumber_1 (by decide) rfl ?_
  refine j_iconst E (v := 0) dX9_readNumber_3 (by decide) ?_
  refine j_istore E 5 [(5, .int (0 : Int32)), (4, .int (0 : Int32)), (0, .ref v0), (1, .ref v1), (2, .int v2), (3, .int v3)] dX9_readNumber_4 (by decide) rfl ?_
  obtain ⟨n36, h⟩ := h
  refine j_sub [2, 3, 4, 5, 1, 0] rfl ?_
  exact m_X9_readNumber_L6 E hZ  n36 v0 v1 v2 v3 (0 : Int32) (0 : Int32) I L kv0 kv1 h
set_option maxRecDepth 100000 in
def f_X9_readMark (v0 : Nat) (v1 : Nat) (v2 : Int32) (Z : jZ) (I : jI) (L : jL) (Q : Int32 → jI → jL → Prop) : Prop := (f_X9_look v0 v1 Z I L (fun r6 I3 L4 => ((r6 = v2 → (∀ I8 : jI, I8 = jpI I3 v0 6 ((I3 v0 6) + (1 : Int32)) → Q (1 : Int32) I8 L4)) ∧ (¬ (r6 = v2) → (f_X9_fail v0 (I3 v0 6) Z I3 L4 (fun r14 I11 L12 => Q r14 I11 L12))))))
set_option maxHeartbeats 4000000 in
set_option maxRecDepth 100000 in
theorem c_X9_readMark (l : Launch) (D : va_G) (cy : jC) (v0 : Nat) (v1 : Nat) (v2 : Int32) (Z : jZ) (I : jI) (L : jL) (Q : Int32 → jI → jL → Prop) (hZ : SH Z) (kv0 : jk Z v0 9) (kv1 : jk Z v1 10) (h : f_X9_readMark v0 v1 v2 Z I L Q) : jCt l yX9_readMark w_X9_readMark { frames := 2, cells := 0, slots := 0, locals := 42 } D cy [.ref v0, .ref v1, .int v2] Z I L (rtZ Z Q) := by
  refine jCt_of (cc := cX9_readMark) (maxL := 3) (ret := (some .boolean)) (by decide +kernel) rfl (Nat.le_of_ble_eq_true rfl) ?_
  intro G eD eY eL E
  subst eD; subst eY; subst eL
  have E : jE G cX9_readMark RX9 w_X9_readMark 3 (some .boolean) { frames := 2, cells := 0, slots := 0, locals := 42 } (rtZ Z Q) := E
  show jJ G 3 0 [(0, .ref v0), (1, .ref v1), (2, .int v2)] [] Z I L 0 0
  refine j_aload_n E dX9_readMark_0 0 rfl ?_
  refine j_aload_n E dX9_readMark_1 1 rfl ?_
  refine j_callV E [.ref v1] [] (c_X9_look (gL G) (gD G) (gY G) v0 v1 Z I L _ hZ kv0 kv1 h) (gwV W_367 W_368 W_369 W_362 W_366) rfl ⟨rfl, fy_X9_look⟩ ⟨by decide, by decide⟩ (c := 9) rfl (by decide) kv0 rfl rfl (Nat.le_of_ble_eq_true rfl) ⟨Nat.zero_le _, Nat.zero_le _⟩ dX9_readMark_2 (fun v1 Z2 I3 L4 q5 => ?_)
  obtain ⟨rfl, r6, rfl, h⟩ := q5
  show jJ G 3 5 [(0, .ref v0), (1, .ref v1), (2, .int v2)] [.int r6] Z I3 L4 0 0
  refine j_iload_n E dX9_readMark_5 2 rfl ?_
  refine j_icmp_eq E 18 dX9_readMark_6 (by decide) (fun c7 => ?_) (fun c7 => ?_)
  · have h := h.1 c7
    refine j_aload_n E dX9_readMark_18 0 rfl ?_
    refine j_dup E dX9_readMark_19 rfl ?_
    refine j_geti E 9 6 rfl rfl (by decide) (by decide) (iw iT_9) rfl rfl (tw W_358) kv0 dX9_readMark_20 ?_
    refine j_iconst E (v := 1) dX9_readMark_23 (by decide) ?_
    refine j_iadd E dX9_readMark_24 ?_
    refine j_puti E 9 6 rfl rfl (by decide) (by decide) (iw iT_9) tyX9_ok nmX9 rfl rfl (tw W_358) rfl rfl rfl kv0 dX9_readMark_25 ?_
    refine j_nmI (fun I8 eI8 => ?_)
    have h := h I8 eI8
    refine j_iconst E (v := 1) dX9_readMark_28 (by decide) ?_
    exact j_zreturn E (Or.inr rfl) ⟨rfl, _, rfl, (Or.inr rfl), h⟩ (Nat.zero_le _) (Nat.zero_le _) dX9_readMark_29
  · have h := h.2 c7
    refine j_aload_n E dX9_readMark_9 0 rfl ?_
    refine j_aload_n E dX9_readMark_10 0 rfl ?_
    refine j_geti E 9 6 rfl rfl (by decide) (by decide) (iw iT_9) rfl rfl (tw W_358) kv0 dX9_readMark_11 ?_
    refine j_callV E [.int (I3 v0 6)] [] (c_X9_fail (gL G) (gD G) (gY G) v0 (I3 v0 6) Z I3 L4 _ hZ kv0 h) (gwV W_363 W_364 W_365 W_362 W_361) rfl ⟨rfl, fy_X9_fail⟩ ⟨by decide, by decide⟩ (c := 9) rfl (by decide) kv0 rfl rfl (Nat.le_of_ble_eq_true rfl) ⟨Nat.zero_le _, Nat.zero_le _⟩ dX9_readMark_14 (fun v9 Z10 I11 L12 q13 => ?_)
    obtain ⟨rfl, r14, rfl, zr14, h⟩ := q13
    show jJ G 3 17 [(0, .ref v0), (1, .ref v1), (2, .int v2)] [.int r14] Z I11 L12 0 0
    exact j_zreturn E zr14 ⟨rfl, _, rfl, zr14, h⟩ (Nat.zero_le _) (Nat.zero_le _) dX9_readMark_17
set_option maxRecDepth 100000 in
def f_X9_readFamily (v0 : Nat) (v1 : Nat) (Z : jZ) (I : jI) (L : jL) (Q : Int32 → jI → jL → Prop) : Prop := (f_X9_look v0 v1 Z I L (fun r6 I3 L4 => (∀ x7 : Int32, x7 = (r6 - (48 : Int32)) → (f_X11_isFamily x7 Z I3 L4 (fun r13 I10 L11 => ((¬ r13 = 0 → (∀ I15 : jI, I15 = jpI I10 v0 6 ((I10 v0 6) + (1 : Int32)) → Q x7 I15 L11)) ∧ (r13 = 0 → (f_X9_fail v0 (I10 v0 6) Z I10 L11 (fun r21 I18 L19 => Q (-1 : Int32) I18 L19)))))))))
set_option maxHeartbeats 4000000 in
set_option maxRecDepth 100000 in
theorem c_X9_readFamily (l : Launch) (D : va_G) (cy : jC) (v0 : Nat) (v1 : Nat) (Z : jZ) (I : jI) (L : jL) (Q : Int32 → jI → jL → Prop) (hZ : SH Z) (kv0 : jk Z v0 9) (kv1 : jk Z v1 10) (h : f_X9_readFamily v0 v1 Z I L Q) : jCt l yX9_readFamily w_X9_readFamily { frames := 2, cells := 0, slots := 0, locals := 42 } D cy [.ref v0, .ref v1] Z I L (rtI Z Q) := by
  refine jCt_of (cc := cX9_readFamily) (maxL := 3) (ret := (some .int)) (by decide +kernel) rfl (Nat.le_of_ble_eq_true rfl) ?_
  intro G eD eY eL E
  subst eD; subst eY; subst eL
  have E : jE G cX9_readFamily RX9 w_X9_readFamily 3 (some .int) { frames := 2, cells := 0, slots := 0, locals := 42 } (rtI Z Q) := E
  show jJ G 3 0 [(0, .ref v0), (1, .ref v1)] [] Z I L 0 0
  refine j_aload_n E dX9_readFamily_0 0 rfl ?_
  refine j_aload_n E dX9_readFamily_1 1 rfl ?_
  refine j_callV E [.ref v1] [] (c_X9_look (gL G) (gD G) (gY G) v0 v1 Z I L _ hZ kv0 kv1 h) (gwV W_367 W_368 W_369 W_362 W_366) rfl ⟨rfl, fy_X9_look⟩ ⟨by decide, by decide⟩ (c := 9) rfl (by decide) kv0 rfl rfl (Nat.le_of_ble_eq_true rfl) ⟨Nat.zero_le _, Nat.zero_le _⟩ dX9_readFamily_2 (fun v1 Z2 I3 L4 q5 => ?_)
  obtain ⟨rfl, r6, rfl, h⟩ := q5
  show jJ G 3 5 [(0, .ref v0), (1, .ref v1)] [.int r6] Z I3 L4 0 0
  refine j_bipush E (v := 48) dX9_readFamily_5 (by decide) ?_
  refine j_isub E dX9_readFamily_7 ?_
  refine j_topi (fun x7 ex7 => ?_)
  have h := h x7 ex7
  refine j_istore_n E 2 [(2, .int x7), (0, .ref v0), (1, .ref v1)] dX9_readFamily_8 rfl (by decide) rfl ?_
  refine j_iload_n E dX9_readFamily_9 0 rfl ?_
  refine j_callSN E [.int x7] [] (c_X11_isFamily (gL G) (gD G) (gY G) x7 Z I3 L4 _ hZ  h) (gwN W_213) rfl (nm_X11_isFamily_X9_75) (tw W_28) (tw W_214) fy_X11_isFamily ⟨by decide, by decide⟩ rfl rfl (Nat.le_of_ble_eq_true rfl) ⟨Nat.zero_le _, Nat.zero_le _⟩ dX9_readFamily_10 (fun v8 Z9 I10 L11 q12 => ?_)
  obtain ⟨rfl, r13, rfl, zr13, h⟩ := q12
  show jJ G 3 13 [(2, .int x7), (0, .ref v0), (1, .ref v1)] [.int r13] Z I10 L11 0 0
  refine j_if_ne E 27 dX9_readFamily_13 (by decide) (fun c14 => ?_) (fun c14 => ?_)
  · have h := h.1 c14
    refine j_aload_n E dX9_readFamily_27 1 rfl ?_
    refine j_dup E dX9_readFamily_28 rfl ?_
    refine j_geti E 9 6 rfl rfl (by decide) (by decide) (iw iT_9) rfl rfl (tw W_358) kv0 dX9_readFamily_29 ?_
    refine j_iconst E (v := 1) dX9_readFamily_32 (by decide) ?_
    refine j_iadd E dX9_readFamily_33 ?_
    refine j_puti E 9 6 rfl rfl (by decide) (by decide) (iw iT_9) tyX9_ok nmX9 rfl rfl (tw W_358) rfl rfl rfl kv0 dX9_readFamily_34 ?_
    refine j_nmI (fun I15 eI15 => ?_)
    have h := h I15 eI15
    refine j_iload_n E dX9_readFamily_37 0 rfl ?_
    exact j_ireturn E ⟨rfl, _, rfl, h⟩ (Nat.zero_le _) (Nat.zero_le _) dX9_readFamily_38
  · have h := h.2 c14
    refine j_aload_n E dX9_readFamily_16 1 rfl ?_
    refine j_aload_n E dX9_readFamily_17 1 rfl ?_
    refine j_geti E 9 6 rfl rfl (by decide) (by decide) (iw iT_9) rfl rfl (tw W_358) kv0 dX9_readFamily_18 ?_
    refine j_callV E [.int (I10 v0 6)] [] (c_X9_fail (gL G) (gD G) (gY G) v0 (I10 v0 6) Z I10 L11 _ hZ kv0 h) (gwV W_363 W_364 W_365 W_362 W_361) rfl ⟨rfl, fy_X9_fail⟩ ⟨by decide, by decide⟩ (c := 9) rfl (by decide) kv0 rfl rfl (Nat.le_of_ble_eq_true rfl) ⟨Nat.zero_le _, Nat.zero_le _⟩ dX9_readFamily_21 (fun v16 Z17 I18 L19 q20 => ?_)
    obtain ⟨rfl, r21, rfl, zr21, h⟩ := q20
    show jJ G 3 24 [(2, .int x7), (0, .ref v0), (1, .ref v1)] [.int r21] Z I18 L19 0 0
    refine j_pop E dX9_readFamily_24 rfl ?_
    refine j_iconst E (v := -1) dX9_readFamily_25 (by decide) ?_
    exact j_ireturn E ⟨rfl, _, rfl, h⟩ (Nat.zero_le _) (Nat.zero_le _) dX9_readFamily_26
set_option maxRecDepth 100000 in
def f_X9_readTimes (v0 : Nat) (v1 : Nat) (Z : jZ) (I : jI) (L : jL) (Q : Int32 → jI → jL → Prop) : Prop := (f_X9_look v0 v1 Z I L (fun r6 I3 L4 => ((r6 = (42 : Int32) → (∀ I8 : jI, I8 = jpI I3 v0 6 ((I3 v0 6) + (1 : Int32)) → (f_X9_readNumber v0 v1 (1 : Int32) ((24 : Int32) - (I8 v0 5)) Z I8 L4 (fun r14 I11 L12 => Q r14 I11 L12)))) ∧ (¬ (r6 = (42 : Int32)) → Q (1 : Int32) I3 L4))))
set_option maxHeartbeats 4000000 in
set_option maxRecDepth 100000 in
theorem c_X9_readTimes (l : Launch) (D : va_G) (cy : jC) (v0 : Nat) (v1 : Nat) (Z : jZ) (I : jI) (L : jL) (Q : Int32 → jI → jL → Prop) (hZ : SH Z) (kv0 : jk Z v0 9) (kv1 : jk Z v1 10) (h : f_X9_readTimes v0 v1 Z I L Q) : jCt l yX9_readTimes w_X9_readTimes { frames := 3, cells := 0, slots := 0, locals := 68 } D cy [.ref v0, .ref v1] Z I L (rtI Z Q) := by
  refine jCt_of (cc := cX9_readTimes) (maxL := 2) (ret := (some .int)) (by decide +kernel) rfl (Nat.le_of_ble_eq_true rfl) ?_
  intro G eD eY eL E
  subst eD; subst eY; subst eL
  have E : jE G cX9_readTimes RX9 w_X9_readTimes 2 (some .int) { frames := 3, cells := 0, slots := 0, locals := 68 } (rtI Z Q) := E
  show jJ G 2 0 [(0, .ref v0), (1, .ref v1)] [] Z I L 0 0
  refine j_aload_n E dX9_readTimes_0 0 rfl ?_
  refine j_aload_n E dX9_readTimes_1 1 rfl ?_
  refine j_callV E [.ref v1] [] (c_X9_look (gL G) (gD G) (gY G) v0 v1 Z I L _ hZ kv0 kv1 h) (gwV W_367 W_368 W_369 W_362 W_366) rfl ⟨rfl, fy_X9_look⟩ ⟨by decide, by decide⟩ (c := 9) rfl (by decide) kv0 rfl rfl (Nat.le_of_ble_eq_true rfl) ⟨Nat.zero_le _, Nat.zero_le _⟩ dX9_readTimes_2 (fun v1 Z2 I3 L4 q5 => ?_)
  obtain ⟨rfl, r6, rfl, h⟩ := q5
  show jJ G 2 5 [(0, .ref v0), (1, .ref v1)] [.int r6] Z I3 L4 0 0
  refine j_bipush E (v := 42) dX9_readTimes_5 (by decide) ?_
  refine j_icmp_eq E 12 dX9_readTimes_7 (by decide) (fun c7 => ?_) (fun c7 => ?_)
  · have h := h.1 c7
    refine j_aload_n E dX9_readTimes_12 0 rfl ?_
    refine j_dup E dX9_readTimes_13 rfl ?_
    refine j_geti E 9 6 rfl rfl (by decide) (by decide) (iw iT_9) rfl rfl (tw W_358) kv0 dX9_readTimes_14 ?_
    refine j_iconst E (v := 1) dX9_readTimes_17 (by decide) ?_
    refine j_iadd E dX9_readTimes_18 ?_
    refine j_puti E 9 6 rfl rfl (by decide) (by decide) (iw iT_9) tyX9_ok nmX9 rfl rfl (tw W_358) rfl rfl rfl kv0 dX9_readTimes_19 ?_
    refine j_nmI (fun I8 eI8 => ?_)
    have h := h I8 eI8
    refine j_aload_n E dX9_readTimes_22 0 rfl ?_
    refine j_aload_n E dX9_readTimes_23 1 rfl ?_
    refine j_iconst E (v := 1) dX9_readTimes_24 (by decide) ?_
    refine j_bipush E (v := 24) dX9_readTimes_25 (by decide) ?_
    refine j_aload_n E dX9_readTimes_27 0 rfl ?_
    refine j_geti E 9 5 rfl rfl (by decide) (by decide) (iw iT_9) rfl rfl (tw W_371) kv0 dX9_readTimes_28 ?_
    refine j_isub E dX9_readTimes_31 ?_
    refine j_callV E [.ref v1, .int (1 : Int32), .int ((24 : Int32) - (I8 v0 5))] [] (c_X9_readNumber (gL G) (gD G) (gY G) v0 v1 (1 : Int32) ((24 : Int32) - (I8 v0 5)) Z I8 L4 _ hZ kv0 kv1 h) (gwV W_373 W_374 W_375 W_362 W_372) rfl ⟨rfl, fy_X9_readNumber⟩ ⟨by decide, by decide⟩ (c := 9) rfl (by decide) kv0 rfl rfl (Nat.le_of_ble_eq_true rfl) ⟨Nat.zero_le _, Nat.zero_le _⟩ dX9_readTimes_32 (fun v9 Z10 I11 L12 q13 => ?_)
    obtain ⟨rfl, r14, rfl, h⟩ := q13
    show jJ G 2 35 [(0, .ref v0), (1, .ref v1)] [.int r14] Z I11 L12 0 0
    exact j_ireturn E ⟨rfl, _, rfl, h⟩ (Nat.zero_le _) (Nat.zero_le _) dX9_readTimes_35
  · have h := h.2 c7
    refine j_iconst E (v := 1) dX9_readTimes_10 (by decide) ?_
    exact j_ireturn E ⟨rfl, _, rfl, h⟩ (Nat.zero_le _) (Nat.zero_le _) dX9_readTimes_11
set_option maxRecDepth 100000 in
def f_X9_put (v0 : Nat) (v1 : Int32) (v2 : Int32) (v3 : Int32) (v4 : Int32) (v5 : Int32) (Z : jZ) (I : jI) (L : jL) (Q : jI → jL → Prop) : Prop := (((24 : Int32) ≤ (I v0 5) → Q I L) ∧ (¬ ((24 : Int32) ≤ (I v0 5)) → (∀ b2 : Nat, jr Z v0 0 = some b2 → (vp_in (I v0 5) 24 ∧ (∀ I4 : jI, I4 = jpI I b2 (I v0 5).toNatClampNeg v1 → (∀ b5 : Nat, jr Z v0 1 = some b5 → (vp_in (I4 v0 5) 24 ∧ (∀ I7 : jI, I7 = jpI I4 b5 (I4 v0 5).toNatClampNeg v2 → (∀ b8 : Nat, jr Z v0 2 = some b8 → (vp_in (I7 v0 5) 24 ∧ (∀ I10 : jI, I10 = jpI I7 b8 (I7 v0 5).toNatClampNeg v3 → (∀ b11 : Nat, jr Z v0 3 = some b11 → (vp_in (I10 v0 5) 24 ∧ (∀ I13 : jI, I13 = jpI I10 b11 (I10 v0 5).toNatClampNeg v4 → (∀ b14 : Nat, jr Z v0 4 = some b14 → (vp_in (I13 v0 5) 24 ∧ (∀ I16 : jI, I16 = jpI I13 b14 (I13 v0 5).toNatClampNeg v5 → (∀ I17 : jI, I17 = jpI I16 v0 5 ((I16 v0 5) + (1 : Int32)) → Q I17 L))))))))))))))))))
set_option maxHeartbeats 4000000 in
set_option maxRecDepth 100000 in
theorem c_X9_put (l : Launch) (D : va_G) (cy : jC) (v0 : Nat) (v1 : Int32) (v2 : Int32) (v3 : Int32) (v4 : Int32) (v5 : Int32) (Z : jZ) (I : jI) (L : jL) (Q : jI → jL → Prop) (hZ : SH Z) (kv0 : jk Z v0 9) (h : f_X9_put v0 v1 v2 v3 v4 v5 Z I L Q) : jCt l yX9_put w_X9_put { frames := 0, cells := 0, slots := 0, locals := 0 } D cy [.ref v0, .int v1, .int v2, .int v3, .int v4, .int v5] Z I L (rtV Z Q) := by
  refine jCt_of (cc := cX9_put) (maxL := 6) (ret := none) (by decide +kernel) rfl (Nat.le_of_ble_eq_true rfl) ?_
  intro G eD eY eL E
  subst eD; subst eY; subst eL
  have E : jE G cX9_put RX9 w_X9_put 6 none { frames := 0, cells := 0, slots := 0, locals := 0 } (rtV Z Q) := E
  show jJ G 6 0 [(0, .ref v0), (1, .int v1), (2, .int v2), (3, .int v3), (4, .int v4), (5, .int v5)] [] Z I L 0 0
  refine j_aload_n E dX9_put_0 0 rfl ?_
  refine j_geti E 9 5 rfl rfl (by decide) (by decide) (iw iT_9) rfl rfl (tw W_371) kv0 dX9_put_1 ?_
  refine j_bipush E (v := 24) dX9_put_4 (by decide) ?_
  refine j_icmp_ge E 71 dX9_put_6 (by decide) (fun c1 => ?_) (fun c1 => ?_)
  · have h := h.1 c1
    exact j_return E ⟨rfl, rfl, h⟩ (Nat.zero_le _) (Nat.zero_le _) dX9_put_71
  · have h := h.2 c1
    refine j_aload_n E dX9_put_9 0 rfl ?_
    obtain ⟨b2, eb2, kb2, lb2⟩ := sh_f hZ kv0 (j := 0) (k := 14) (m := 24) rfl
    have h := h b2 eb2
    refine j_getr E 9 0 rfl rfl (by decide) (by decide) (iw iT_9) rfl rfl (tw W_376) kv0 eb2 dX9_put_10 ?_
    refine j_aload_n E dX9_put_13 0 rfl ?_
    refine j_geti E 9 5 rfl rfl (by decide) (by decide) (iw iT_9) rfl rfl (tw W_371) kv0 dX9_put_14 ?_
    refine j_iload_n E dX9_put_17 1 rfl ?_
    obtain ⟨o3, h⟩ := h
    refine j_iast E kb2 (by rw [lb2]; exact o3) dX9_put_18 ?_
    refine j_nmI (fun I4 eI4 => ?_)
    have h := h I4 eI4
    refine j_aload_n E dX9_put_19 0 rfl ?_
    obtain ⟨b5, eb5, kb5, lb5⟩ := sh_f hZ kv0 (j := 1) (k := 14) (m := 24) rfl
    have h := h b5 eb5
    refine j_getr E 9 1 rfl rfl (by decide) (by decide) (iw iT_9) rfl rfl (tw W_377) kv0 eb5 dX9_put_20 ?_
    refine j_aload_n E dX9_put_23 0 rfl ?_
    refine j_geti E 9 5 rfl rfl (by decide) (by decide) (iw iT_9) rfl rfl (tw W_371) kv0 dX9_put_24 ?_
    refine j_iload_n E dX9_put_27 2 rfl ?_
    obtain ⟨o6, h⟩ := h
    refine j_iast E kb5 (by rw [lb5]; exact o6) dX9_put_28 ?_
    refine j_nmI (fun I7 eI7 => ?_)
    have h := h I7 eI7
    refine j_aload_n E dX9_put_29 0 rfl ?_
    obtain ⟨b8, eb8, kb8, lb8⟩ := sh_f hZ kv0 (j := 2) (k := 14) (m := 24) rfl
    have h := h b8 eb8
    refine j_getr E 9 2 rfl rfl (by decide) (by decide) (iw iT_9) rfl rfl (tw W_378) kv0 eb8 dX9_put_30 ?_
    refine j_aload_n E dX9_put_33 0 rfl ?_
    refine j_geti E 9 5 rfl rfl (by decide) (by decide) (iw iT_9) rfl rfl (tw W_371) kv0 dX9_put_34 ?_
    refine j_iload_n E dX9_put_37 3 rfl ?_
    obtain ⟨o9, h⟩ := h
    refine j_iast E kb8 (by rw [lb8]; exact o9) dX9_put_38 ?_
    refine j_nmI (fun I10 eI10 => ?_)
    have h := h I10 eI10
    refine j_aload_n E dX9_put_39 0 rfl ?_
    obtain ⟨b11, eb11, kb11, lb11⟩ := sh_f hZ kv0 (j := 3) (k := 14) (m := 24) rfl
    have h := h b11 eb11
    refine j_getr E 9 3 rfl rfl (by decide) (by decide) (iw iT_9) rfl rfl (tw W_379) kv0 eb11 dX9_put_40 ?_
    refine j_aload_n E dX9_put_43 0 rfl ?_
    refine j_geti E 9 5 rfl rfl (by decide) (by decide) (iw iT_9) rfl rfl (tw W_371) kv0 dX9_put_44 ?_
    refine j_iload E dX9_put_47 4 rfl ?_
    obtain ⟨o12, h⟩ := h
    refine j_iast E kb11 (by rw [lb11]; exact o12) dX9_put_49 ?_
    refine j_nmI (fun I13 eI13 => ?_)
    have h := h I13 eI13
    refine j_aload_n E dX9_put_50 0 rfl ?_
    obtain ⟨b14, eb14, kb14, lb14⟩ := sh_f hZ kv0 (j := 4) (k := 14) (m := 24) rfl
    have h := h b14 eb14
    refine j_getr E 9 4 rfl rfl (by decide) (by decide) (iw iT_9) rfl rfl (tw W_380) kv0 eb14 dX9_put_51 ?_
    refine j_aload_n E dX9_put_54 0 rfl ?_
    refine j_geti E 9 5 rfl rfl (by decide) (by decide) (iw iT_9) rfl rfl (tw W_371) kv0 dX9_put_55 ?_
    refine j_iload E dX9_put_58 5 rfl ?_
    obtain ⟨o15, h⟩ := h
    refine j_iast E kb14 (by rw [lb14]; exact o15) dX9_put_60 ?_
    refine j_nmI (fun I16 eI16 => ?_)
    have h := h I16 eI16
    refine j_aload_n E dX9_put_61 0 rfl ?_
    refine j_dup E dX9_put_62 rfl ?_
    refine j_geti E 9 5 rfl rfl (by decide) (by decide) (iw iT_9) rfl rfl (tw W_371) kv0 dX9_put_63 ?_
    refine j_iconst E (v := 1) dX9_put_66 (by decide) ?_
    refine j_iadd E dX9_put_67 ?_
    refine j_puti E 9 5 rfl rfl (by decide) (by decide) (iw iT_9) tyX9_ok nmX9 rfl rfl (tw W_371) rfl rfl rfl kv0 dX9_put_68 ?_
    refine j_nmI (fun I17 eI17 => ?_)
    have h := h I17 eI17
    exact j_return E ⟨rfl, rfl, h⟩ (Nat.zero_le _) (Nat.zero_le _) dX9_put_71
set_option maxRecDepth 100000 in
def f_X9_readLine_L151  (Z : jZ) (Q : Int32 → jI → jL → Prop) : Nat → Nat → Int32 → Int32 → Int32 → Int32 → Int32 → Int32 → Int32 → jI → jL → Prop
  | 0 => fun _ _ _ _ _ _ _ _ _ _ => False
  | n + 1 => fun v0 v2 v3 v4 v5 v6 v7 v8 I L => ((v7 ≤ v8 → ((v7 = (-1 : Int32) → Q (0 : Int32) I L) ∧ (¬ (v7 = (-1 : Int32)) → Q (1 : Int32) I L))) ∧ (¬ (v7 ≤ v8) → (f_X9_put v0 v2 v3 v4 v6 v5 Z I L (fun I5 L6 => (∀ x8 : Int32, x8 = v8 + 1 → (f_X9_readLine_L151 Z Q n) v0 v2 v3 v4 v5 v6 v7 x8 I5 L6)))))
set_option maxHeartbeats 4000000 in
set_option maxRecDepth 100000 in
theorem m_X9_readLine_L151 {G : jG} {Z : jZ} {Q : Int32 → jI → jL → Prop} (E : jE G cX9_readLine RX9 w_X9_readLine 9 (some .boolean) { frames := 4, cells := 0, slots := 0, locals := 89 } (rtZ Z Q)) (hZ : SH Z)  : ∀ (n : Nat) (v0 : Nat) (v2 : Int32) (v3 : Int32) (v4 : Int32) (v5 : Int32) (v6 : Int32) (v7 : Int32) (v8 : Int32) (I : jI) (L : jL), jk Z v0 9 → f_X9_readLine_L151  Z Q n v0 v2 v3 v4 v5 v6 v7 v8 I L → jJ G 9 151 [(0, .ref v0), (2, .int v2), (3, .int v3), (4, .int v4), (5, .int v5), (6, .int v6), (7, .int v7), (8, .int v8)] [] Z I L 0 0 := by
  intro n
  induction n with
  | zero => intro v0 v2 v3 v4 v5 v6 v7 v8 I L _ h; exact h.elim
  | succ n ih =>
    intro v0 v2 v3 v4 v5 v6 v7 v8 I L kv0 h
    have h : ((v7 ≤ v8 → ((v7 = (-1 : Int32) → Q (0 : Int32) I L) ∧ (¬ (v7 = (-1 : Int32)) → Q (1 : Int32) I L))) ∧ (¬ (v7 ≤ v8) → (f_X9_put v0 v2 v3 v4 v6 v5 Z I L (fun I5 L6 => (∀ x8 : Int32, x8 = v8 + 1 → (f_X9_readLine_L151 Z Q n) v0 v2 v3 v4 v5 v6 v7 x8 I5 L6))))) := h
    obtain ⟨K151, eK151⟩ : ∃ K : Nat → Int32 → Int32 → Int32 → Int32 → Int32 → Int32 → Int32 → jI → jL → Prop, K = f_X9_readLine_L151  Z Q n := ⟨_, rfl⟩
    have hK151 := ih
    clear eK151 K151
    generalize f_X9_readLine_L151  Z Q n = K151 at hK151 h
    refine j_iload E dX9_readLine_151 7 rfl ?_
    refine j_iload E dX9_readLine_153 6 rfl ?_
    refine j_icmp_ge E 176 dX9_readLine_155 (by decide) (fun c1 => ?_) (fun c1 => ?_)
    · have h := h.1 c1
      refine j_iload E dX9_readLine_176 6 rfl ?_
      refine j_iconst E (v := -1) dX9_readLine_178 (by decide) ?_
      refine j_icmp_eq E 186 dX9_readLine_179 (by decide) (fun c2 => ?_) (fun c2 => ?_)
      · have h := h.1 c2
        refine j_iconst E (v := 0) dX9_readLine_186 (by decide) ?_
        exact j_zreturn E (Or.inl rfl) ⟨rfl, _, rfl, (Or.inl rfl), h⟩ (Nat.zero_le _) (Nat.zero_le _) dX9_readLine_187
      · have h := h.2 c2
        refine j_iconst E (v := 1) dX9_readLine_182 (by decide) ?_
        refine j_goto E 187 dX9_readLine_183 (by decide) ?_
        exact j_zreturn E (Or.inr rfl) ⟨rfl, _, rfl, (Or.inr rfl), h⟩ (Nat.zero_le _) (Nat.zero_le _) dX9_readLine_187
    · have h := h.2 c1
      refine j_aload_n E dX9_readLine_158 0 rfl ?_
      refine j_iload_n E dX9_readLine_159 1 rfl ?_
      refine j_iload_n E dX9_readLine_160 2 rfl ?_
      refine j_iload E dX9_readLine_161 3 rfl ?_
      refine j_iload E dX9_readLine_163 5 rfl ?_
      refine j_iload E dX9_readLine_165 4 rfl ?_
      refine j_callV E [.int v2, .int v3, .int v4, .int v6, .int v5] [] (c_X9_put (gL G) (gD G) (gY G) v0 v2 v3 v4 v6 v5 Z I L _ hZ kv0 h) (gwV W_382 W_383 W_384 W_362 W_381) rfl ⟨rfl, fy_X9_put⟩ ⟨by decide, by decide⟩ (c := 9) rfl (by decide) kv0 rfl rfl (Nat.le_of_ble_eq_true rfl) ⟨Nat.zero_le _, Nat.zero_le _⟩ dX9_readLine_167 (fun v3 Z4 I5 L6 q7 => ?_)
      obtain ⟨rfl, rfl, h⟩ := q7
      show jJ G 9 170 [(0, .ref v0), (2, .int v2), (3, .int v3), (4, .int v4), (5, .int v5), (6, .int v6), (7, .int v7), (8, .int v8)] [] Z I5 L6 0 0
      obtain ⟨x8, ex8⟩ : ∃ y : Int32, y = v8 + 1 := ⟨_, rfl⟩
      have h := h x8 ex8
      refine j_iinc E x8 [(8, .int x8), (0, .ref v0), (2, .int v2), (3, .int v3), (4, .int v4), (5, .int v5), (6, .int v6), (7, .int v7)] dX9_readLine_170 7 rfl (by rw [ex8]; rfl) (by decide) rfl ?_
      refine j_goto E 151 dX9_readLine_173 (by decide) ?_
      refine j_sub [1, 2, 3, 4, 5, 6, 7, 0] rfl ?_
      exact hK151 v0 v2 v3 v4 v5 v6 v7 x8 I5 L6 kv0 h
set_option maxRecDepth 100000 in
def f_X9_readLine_b128  (Z : jZ) (Q : Int32 → jI → jL → Prop) (v0 : Nat) (v1 : Nat) (v2 : Int32) (v3 : Int32) (v4 : Int32) (v5 : Int32) (s0 : Int32) (I : jI) (L : jL) : Prop := (∀ I9 : jI, I9 = jpI I v0 6 ((I v0 6) + s0) → (f_X9_readTimes v0 v1 Z I9 L (fun r15 I12 L13 => (∃ m151 : Nat, f_X9_readLine_L151  Z Q m151 v0 v2 v3 v4 v5 s0 r15 (0 : Int32) I12 L13))))
set_option maxHeartbeats 4000000 in
set_option maxRecDepth 100000 in
theorem m_X9_readLine_b128 {G : jG} {Z : jZ} {Q : Int32 → jI → jL → Prop} (E : jE G cX9_readLine RX9 w_X9_readLine 9 (some .boolean) { frames := 4, cells := 0, slots := 0, locals := 89 } (rtZ Z Q)) (hZ : SH Z)  (v0 : Nat) (v1 : Nat) (v2 : Int32) (v3 : Int32) (v4 : Int32) (v5 : Int32) (s0 : Int32) (I : jI) (L : jL) (kv0 : jk Z v0 9) (kv1 : jk Z v1 10) (h : f_X9_readLine_b128  Z Q v0 v1 v2 v3 v4 v5 s0 I L) : jJ G 9 128 [(0, .ref v0), (1, .ref v1), (2, .int v2), (3, .int v3), (4, .int v4), (5, .int v5)] [.int s0] Z I L 0 0 := by
  refine j_istore E 6 [(6, .int s0), (0, .ref v0), (1, .ref v1), (2, .int v2), (3, .int v3), (4, .int v4), (5, .int v5)] dX9_readLine_128 (by decide) rfl ?_
  refine j_aload_n E dX9_readLine_130 1 rfl ?_
  refine j_dup E dX9_readLine_131 rfl ?_
  refine j_geti E 9 6 rfl rfl (by decide) (by decide) (iw iT_9) rfl rfl (tw W_358) kv0 dX9_readLine_132 ?_
  refine j_iload E dX9_readLine_135 0 rfl ?_
  refine j_iadd E dX9_readLine_137 ?_
  refine j_puti E 9 6 rfl rfl (by decide) (by decide) (iw iT_9) tyX9_ok nmX9 rfl rfl (tw W_358) rfl rfl rfl kv0 dX9_readLine_138 ?_
  refine j_nmI (fun I9 eI9 => ?_)
  have h := h I9 eI9
  refine j_aload_n E dX9_readLine_141 1 rfl ?_
  refine j_aload_n E dX9_readLine_142 2 rfl ?_
  refine j_callV E [.ref v1] [] (c_X9_readTimes (gL G) (gD G) (gY G) v0 v1 Z I9 L _ hZ kv0 kv1 h) (gwV W_386 W_387 W_388 W_362 W_385) rfl ⟨rfl, fy_X9_readTimes⟩ ⟨by decide, by decide⟩ (c := 9) rfl (by decide) kv0 rfl rfl (Nat.le_of_ble_eq_true rfl) ⟨Nat.zero_le _, Nat.zero_le _⟩ dX9_readLine_143 (fun v10 Z11 I12 L13 q14 => ?_)
  obtain ⟨rfl, r15, rfl, h⟩ := q14
  show jJ G 9 146 [(6, .int s0), (0, .ref v0), (1, .ref v1), (2, .int v2), (3, .int v3), (4, .int v4), (5, .int v5)] [.int r15] Z I12 L13 0 0
  refine j_istore E 7 [(7, .int r15), (6, .int s0), (0, .ref v0), (1, .ref v1), (2, .int v2), (3, .int v3), (4, .int v4), (5, .int v5)] dX9_readLine_146 (by decide) rfl ?_
  refine j_iconst E (v := 0) dX9_readLine_148 (by decide) ?_
  refine j_istore E 8 [(8, .int (0 : Int32)), (7, .int r15), (6, .int s0), (0, .ref v0), (1, .ref v1), (2, .int v2), (3, .int v3), (4, .int v4), (5, .int v5)] dX9_readLine_149 (by decide) rfl ?_
  obtain ⟨n16, h⟩ := h
  refine j_sub [3, 5, 6, 7, 8, 2, 1, 0] rfl ?_
  exact m_X9_readLine_L151 E hZ  n16 v0 v2 v3 v4 v5 s0 r15 (0 : Int32) I12 L13 kv0 h
set_option maxRecDepth 100000 in
def f_X9_readLine (v0 : Nat) (v1 : Nat) (Z : jZ) (I : jI) (L : jL) (Q : Int32 → jI → jL → Prop) : Prop := (((I v0 5) < (24 : Int32) → (f_X9_readNumber v0 v1 (1 : Int32) (30 : Int32) Z I L (fun r23 I20 L21 => ((r23 = (-1 : Int32) → Q (0 : Int32) I20 L21) ∧ (¬ (r23 = (-1 : Int32)) → (f_X9_readMark v0 v1 (44 : Int32) Z I20 L21 (fun r30 I27 L28 => ((¬ r30 = 0 → (f_X9_readNumber v0 v1 (0 : Int32) (9 : Int32) Z I27 L28 (fun r37 I34 L35 => ((r37 = (-1 : Int32) → Q (0 : Int32) I34 L35) ∧ (¬ (r37 = (-1 : Int32)) → (f_X9_readMark v0 v1 (44 : Int32) Z I34 L35 (fun r44 I41 L42 => ((¬ r44 = 0 → (f_X9_readNumber v0 v1 (0 : Int32) (20 : Int32) Z I41 L42 (fun r51 I48 L49 => ((r51 = (-1 : Int32) → Q (0 : Int32) I48 L49) ∧ (¬ (r51 = (-1 : Int32)) → (f_X9_readMark v0 v1 (64 : Int32) Z I48 L49 (fun r58 I55 L56 => ((¬ r58 = 0 → (f_X9_readFamily v0 v1 Z I55 L56 (fun r65 I62 L63 => ((¬ r65 = (-1 : Int32) → (f_X9_look v0 v1 Z I62 L63 (fun r72 I69 L70 => ((¬ r72 = (119 : Int32) → f_X9_readLine_b128  Z Q v0 v1 r23 r37 r51 r65 (0 : Int32) I69 L70) ∧ (r72 = (119 : Int32) → f_X9_readLine_b128  Z Q v0 v1 r23 r37 r51 r65 (1 : Int32) I69 L70))))) ∧ (r65 = (-1 : Int32) → Q (0 : Int32) I62 L63))))) ∧ (r58 = 0 → Q (0 : Int32) I55 L56))))))))) ∧ (r44 = 0 → Q (0 : Int32) I41 L42))))))))) ∧ (r30 = 0 → Q (0 : Int32) I27 L28))))))))) ∧ (¬ ((I v0 5) < (24 : Int32)) → (f_X9_fail v0 (I v0 6) Z I L (fun r79 I76 L77 => Q r79 I76 L77))))
set_option maxHeartbeats 4000000 in
set_option maxRecDepth 100000 in
theorem c_X9_readLine (l : Launch) (D : va_G) (cy : jC) (v0 : Nat) (v1 : Nat) (Z : jZ) (I : jI) (L : jL) (Q : Int32 → jI → jL → Prop) (hZ : SH Z) (kv0 : jk Z v0 9) (kv1 : jk Z v1 10) (h : f_X9_readLine v0 v1 Z I L Q) : jCt l yX9_readLine w_X9_readLine { frames := 4, cells := 0, slots := 0, locals := 89 } D cy [.ref v0, .ref v1] Z I L (rtZ Z Q) := by
  refine jCt_of (cc := cX9_readLine) (maxL := 9) (ret := (some .boolean)) (by decide +kernel) rfl (Nat.le_of_ble_eq_true rfl) ?_
  intro G eD eY eL E
  subst eD; subst eY; subst eL
  have E : jE G cX9_readLine RX9 w_X9_readLine 9 (some .boolean) { frames := 4, cells := 0, slots := 0, locals := 89 } (rtZ Z Q) := E
  show jJ G 9 0 [(0, .ref v0), (1, .ref v1)] [] Z I L 0 0
  refine j_aload_n E dX9_readLine_0 0 rfl ?_
  refine j_geti E 9 5 rfl rfl (by decide) (by decide) (iw iT_9) rfl rfl (tw W_371) kv0 dX9_readLine_1 ?_
  refine j_bipush E (v := 24) dX9_readLine_4 (by decide) ?_
  refine j_icmp_lt E 18 dX9_readLine_6 (by decide) (fun c17 => ?_) (fun c17 => ?_)
  · have h := h.1 c17
    refine j_aload_n E dX9_readLine_18 0 rfl ?_
    refine j_aload_n E dX9_readLine_19 1 rfl ?_
    refine j_iconst E (v := 1) dX9_readLine_20 (by decide) ?_
    refine j_bipush E (v := 30) dX9_readLine_21 (by decide) ?_
    refine j_callV E [.ref v1, .int (1 : Int32), .int (30 : Int32)] [] (c_X9_readNumber (gL G) (gD G) (gY G) v0 v1 (1 : Int32) (30 : Int32) Z I L _ hZ kv0 kv1 h) (gwV W_373 W_374 W_375 W_362 W_372) rfl ⟨rfl, fy_X9_readNumber⟩ ⟨by decide, by decide⟩ (c := 9) rfl (by decide) kv0 rfl rfl (Nat.le_of_ble_eq_true rfl) ⟨Nat.zero_le _, Nat.zero_le _⟩ dX9_readLine_23 (fun v18 Z19 I20 L21 q22 => ?_)
    obtain ⟨rfl, r23, rfl, h⟩ := q22
    show jJ G 9 26 [(0, .ref v0), (1, .ref v1)] [.int r23] Z I20 L21 0 0
    refine j_istore_n E 2 [(2, .int r23), (0, .ref v0), (1, .ref v1)] dX9_readLine_26 rfl (by decide) rfl ?_
    refine j_iload_n E dX9_readLine_27 0 rfl ?_
    refine j_iconst E (v := -1) dX9_readLine_28 (by decide) ?_
    refine j_icmp_eq E 42 dX9_readLine_29 (by decide) (fun c24 => ?_) (fun c24 => ?_)
    · have h := h.1 c24
      refine j_iconst E (v := 0) dX9_readLine_42 (by decide) ?_
      exact j_zreturn E (Or.inl rfl) ⟨rfl, _, rfl, (Or.inl rfl), h⟩ (Nat.zero_le _) (Nat.zero_le _) dX9_readLine_43
    · have h := h.2 c24
      refine j_aload_n E dX9_readLine_32 1 rfl ?_
      refine j_aload_n E dX9_readLine_33 2 rfl ?_
      refine j_bipush E (v := 44) dX9_readLine_34 (by decide) ?_
      refine j_callV E [.ref v1, .int (44 : Int32)] [] (c_X9_readMark (gL G) (gD G) (gY G) v0 v1 (44 : Int32) Z I20 L21 _ hZ kv0 kv1 h) (gwV W_390 W_391 W_392 W_362 W_389) rfl ⟨rfl, fy_X9_readMark⟩ ⟨by decide, by decide⟩ (c := 9) rfl (by decide) kv0 rfl rfl (Nat.le_of_ble_eq_true rfl) ⟨Nat.zero_le _, Nat.zero_le _⟩ dX9_readLine_36 (fun v25 Z26 I27 L28 q29 => ?_)
      obtain ⟨rfl, r30, rfl, zr30, h⟩ := q29
      show jJ G 9 39 [(2, .int r23), (0, .ref v0), (1, .ref v1)] [.int r30] Z I27 L28 0 0
      refine j_if_ne E 44 dX9_readLine_39 (by decide) (fun c31 => ?_) (fun c31 => ?_)
      · have h := h.1 c31
        refine j_aload_n E dX9_readLine_44 1 rfl ?_
        refine j_aload_n E dX9_readLine_45 2 rfl ?_
        refine j_iconst E (v := 0) dX9_readLine_46 (by decide) ?_
        refine j_bipush E (v := 9) dX9_readLine_47 (by decide) ?_
        refine j_callV E [.ref v1, .int (0 : Int32), .int (9 : Int32)] [] (c_X9_readNumber (gL G) (gD G) (gY G) v0 v1 (0 : Int32) (9 : Int32) Z I27 L28 _ hZ kv0 kv1 h) (gwV W_373 W_374 W_375 W_362 W_372) rfl ⟨rfl, fy_X9_readNumber⟩ ⟨by decide, by decide⟩ (c := 9) rfl (by decide) kv0 rfl rfl (Nat.le_of_ble_eq_true rfl) ⟨Nat.zero_le _, Nat.zero_le _⟩ dX9_readLine_49 (fun v32 Z33 I34 L35 q36 => ?_)
        obtain ⟨rfl, r37, rfl, h⟩ := q36
        show jJ G 9 52 [(2, .int r23), (0, .ref v0), (1, .ref v1)] [.int r37] Z I34 L35 0 0
        refine j_istore_n E 3 [(3, .int r37), (2, .int r23), (0, .ref v0), (1, .ref v1)] dX9_readLine_52 rfl (by decide) rfl ?_
        refine j_iload_n E dX9_readLine_53 0 rfl ?_
        refine j_iconst E (v := -1) dX9_readLine_54 (by decide) ?_
        refine j_icmp_eq E 68 dX9_readLine_55 (by decide) (fun c38 => ?_) (fun c38 => ?_)
        · have h := h.1 c38
          refine j_iconst E (v := 0) dX9_readLine_68 (by decide) ?_
          exact j_zreturn E (Or.inl rfl) ⟨rfl, _, rfl, (Or.inl rfl), h⟩ (Nat.zero_le _) (Nat.zero_le _) dX9_readLine_69
        · have h := h.2 c38
          refine j_aload_n E dX9_readLine_58 2 rfl ?_
          refine j_aload_n E dX9_readLine_59 3 rfl ?_
          refine j_bipush E (v := 44) dX9_readLine_60 (by decide) ?_
          refine j_callV E [.ref v1, .int (44 : Int32)] [] (c_X9_readMark (gL G) (gD G) (gY G) v0 v1 (44 : Int32) Z I34 L35 _ hZ kv0 kv1 h) (gwV W_390 W_391 W_392 W_362 W_389) rfl ⟨rfl, fy_X9_readMark⟩ ⟨by decide, by decide⟩ (c := 9) rfl (by decide) kv0 rfl rfl (Nat.le_of_ble_eq_true rfl) ⟨Nat.zero_le _, Nat.zero_le _⟩ dX9_readLine_62 (fun v39 Z40 I41 L42 q43 => ?_)
          obtain ⟨rfl, r44, rfl, zr44, h⟩ := q43
          show jJ G 9 65 [(3, .int r37), (2, .int r23), (0, .ref v0), (1, .ref v1)] [.int r44] Z I41 L42 0 0
          refine j_if_ne E 70 dX9_readLine_65 (by decide) (fun c45 => ?_) (fun c45 => ?_)
          · have h := h.1 c45
            refine j_aload_n E dX9_readLine_70 2 rfl ?_
            refine j_aload_n E dX9_readLine_71 3 rfl ?_
            refine j_iconst E (v := 0) dX9_readLine_72 (by decide) ?_
            refine j_bipush E (v := 20) dX9_readLine_73 (by decide) ?_
            refine j_callV E [.ref v1, .int (0 : Int32), .int (20 : Int32)] [] (c_X9_readNumber (gL G) (gD G) (gY G) v0 v1 (0 : Int32) (20 : Int32) Z I41 L42 _ hZ kv0 kv1 h) (gwV W_373 W_374 W_375 W_362 W_372) rfl ⟨rfl, fy_X9_readNumber⟩ ⟨by decide, by decide⟩ (c := 9) rfl (by decide) kv0 rfl rfl (Nat.le_of_ble_eq_true rfl) ⟨Nat.zero_le _, Nat.zero_le _⟩ dX9_readLine_75 (fun v46 Z47 I48 L49 q50 => ?_)
            obtain ⟨rfl, r51, rfl, h⟩ := q50
            show jJ G 9 78 [(3, .int r37), (2, .int r23), (0, .ref v0), (1, .ref v1)] [.int r51] Z I48 L49 0 0
            refine j_istore E 4 [(4, .int r51), (3, .int r37), (2, .int r23), (0, .ref v0), (1, .ref v1)] dX9_readLine_78 (by decide) rfl ?_
            refine j_iload E dX9_readLine_80 0 rfl ?_
            refine j_iconst E (v := -1) dX9_readLine_82 (by decide) ?_
            refine j_icmp_eq E 96 dX9_readLine_83 (by decide) (fun c52 => ?_) (fun c52 => ?_)
            · have h := h.1 c52
              refine j_iconst E (v := 0) dX9_readLine_96 (by decide) ?_
              exact j_zreturn E (Or.inl rfl) ⟨rfl, _, rfl, (Or.inl rfl), h⟩ (Nat.zero_le _) (Nat.zero_le _) dX9_readLine_97
            · have h := h.2 c52
              refine j_aload_n E dX9_readLine_86 3 rfl ?_
              refine j_aload_n E dX9_readLine_87 4 rfl ?_
              refine j_bipush E (v := 64) dX9_readLine_88 (by decide) ?_
              refine j_callV E [.ref v1, .int (64 : Int32)] [] (c_X9_readMark (gL G) (gD G) (gY G) v0 v1 (64 : Int32) Z I48 L49 _ hZ kv0 kv1 h) (gwV W_390 W_391 W_392 W_362 W_389) rfl ⟨rfl, fy_X9_readMark⟩ ⟨by decide, by decide⟩ (c := 9) rfl (by decide) kv0 rfl rfl (Nat.le_of_ble_eq_true rfl) ⟨Nat.zero_le _, Nat.zero_le _⟩ dX9_readLine_90 (fun v53 Z54 I55 L56 q57 => ?_)
              obtain ⟨rfl, r58, rfl, zr58, h⟩ := q57
              show jJ G 9 93 [(4, .int r51), (3, .int r37), (2, .int r23), (0, .ref v0), (1, .ref v1)] [.int r58] Z I55 L56 0 0
              refine j_if_ne E 98 dX9_readLine_93 (by decide) (fun c59 => ?_) (fun c59 => ?_)
              · have h := h.1 c59
                refine j_aload_n E dX9_readLine_98 3 rfl ?_
                refine j_aload_n E dX9_readLine_99 4 rfl ?_
                refine j_callV E [.ref v1] [] (c_X9_readFamily (gL G) (gD G) (gY G) v0 v1 Z I55 L56 _ hZ kv0 kv1 h) (gwV W_394 W_395 W_396 W_362 W_393) rfl ⟨rfl, fy_X9_readFamily⟩ ⟨by decide, by decide⟩ (c := 9) rfl (by decide) kv0 rfl rfl (Nat.le_of_ble_eq_true rfl) ⟨Nat.zero_le _, Nat.zero_le _⟩ dX9_readLine_100 (fun v60 Z61 I62 L63 q64 => ?_)
                obtain ⟨rfl, r65, rfl, h⟩ := q64
                show jJ G 9 103 [(4, .int r51), (3, .int r37), (2, .int r23), (0, .ref v0), (1, .ref v1)] [.int r65] Z I62 L63 0 0
                refine j_istore E 5 [(5, .int r65), (4, .int r51), (3, .int r37), (2, .int r23), (0, .ref v0), (1, .ref v1)] dX9_readLine_103 (by decide) rfl ?_
                refine j_iload E dX9_readLine_105 0 rfl ?_
                refine j_iconst E (v := -1) dX9_readLine_107 (by decide) ?_
                refine j_icmp_ne E 113 dX9_readLine_108 (by decide) (fun c66 => ?_) (fun c66 => ?_)
                · have h := h.1 c66
                  refine j_aload_n E dX9_readLine_113 4 rfl ?_
                  refine j_aload_n E dX9_readLine_114 5 rfl ?_
                  refine j_callV E [.ref v1] [] (c_X9_look (gL G) (gD G) (gY G) v0 v1 Z I62 L63 _ hZ kv0 kv1 h) (gwV W_367 W_368 W_369 W_362 W_366) rfl ⟨rfl, fy_X9_look⟩ ⟨by decide, by decide⟩ (c := 9) rfl (by decide) kv0 rfl rfl (Nat.le_of_ble_eq_true rfl) ⟨Nat.zero_le _, Nat.zero_le _⟩ dX9_readLine_115 (fun v67 Z68 I69 L70 q71 => ?_)
                  obtain ⟨rfl, r72, rfl, h⟩ := q71
                  show jJ G 9 118 [(5, .int r65), (4, .int r51), (3, .int r37), (2, .int r23), (0, .ref v0), (1, .ref v1)] [.int r72] Z I69 L70 0 0
                  refine j_bipush E (v := 119) dX9_readLine_118 (by decide) ?_
                  refine j_icmp_ne E 127 dX9_readLine_120 (by decide) (fun c73 => ?_) (fun c73 => ?_)
                  · have h := h.1 c73
                    refine j_iconst E (v := 0) dX9_readLine_127 (by decide) ?_
                    refine j_sub [4, 5, 3, 2, 1, 0] rfl ?_
                    exact m_X9_readLine_b128 E hZ  v0 v1 r23 r37 r51 r65 (0 : Int32) I69 L70 kv0 kv1 h
                  · have h := h.2 c73
                    refine j_iconst E (v := 1) dX9_readLine_123 (by decide) ?_
                    refine j_goto E 128 dX9_readLine_124 (by decide) ?_
                    refine j_sub [4, 5, 3, 2, 1, 0] rfl ?_
                    exact m_X9_readLine_b128 E hZ  v0 v1 r23 r37 r51 r65 (1 : Int32) I69 L70 kv0 kv1 h
                · have h := h.2 c66
                  refine j_iconst E (v := 0) dX9_readLine_111 (by decide) ?_
                  exact j_zreturn E (Or.inl rfl) ⟨rfl, _, rfl, (Or.inl rfl), h⟩ (Nat.zero_le _) (Nat.zero_le _) dX9_readLine_112
              · have h := h.2 c59
                refine j_iconst E (v := 0) dX9_readLine_96 (by decide) ?_
                exact j_zreturn E (Or.inl rfl) ⟨rfl, _, rfl, (Or.inl rfl), h⟩ (Nat.zero_le _) (Nat.zero_le _) dX9_readLine_97
          · have h := h.2 c45
            refine j_iconst E (v := 0) dX9_readLine_68 (by decide) ?_
            exact j_zreturn E (Or.inl rfl) ⟨rfl, _, rfl, (Or.inl rfl), h⟩ (Nat.zero_le _) (Nat.zero_le _) dX9_readLine_69
      · have h := h.2 c31
        refine j_iconst E (v := 0) dX9_readLine_42 (by decide) ?_
        exact j_zreturn E (Or.inl rfl) ⟨rfl, _, rfl, (Or.inl rfl), h⟩ (Nat.zero_le _) (Nat.zero_le _) dX9_readLine_43
  · have h := h.2 c17
    refine j_aload_n E dX9_readLine_9 0 rfl ?_
    refine j_aload_n E dX9_readLine_10 0 rfl ?_
    refine j_geti E 9 6 rfl rfl (by decide) (by decide) (iw iT_9) rfl rfl (tw W_358) kv0 dX9_readLine_11 ?_
    refine j_callV E [.int (I v0 6)] [] (c_X9_fail (gL G) (gD G) (gY G) v0 (I v0 6) Z I L _ hZ kv0 h) (gwV W_363 W_364 W_365 W_362 W_361) rfl ⟨rfl, fy_X9_fail⟩ ⟨by decide, by decide⟩ (c := 9) rfl (by decide) kv0 rfl rfl (Nat.le_of_ble_eq_true rfl) ⟨Nat.zero_le _, Nat.zero_le _⟩ dX9_readLine_14 (fun v74 Z75 I76 L77 q78 => ?_)
    obtain ⟨rfl, r79, rfl, zr79, h⟩ := q78
    show jJ G 9 17 [(0, .ref v0), (1, .ref v1)] [.int r79] Z I76 L77 0 0
    exact j_zreturn E zr79 ⟨rfl, _, rfl, zr79, h⟩ (Nat.zero_le _) (Nat.zero_le _) dX9_readLine_17
set_option maxRecDepth 100000 in
def f_X9_readBreak (v0 : Nat) (v1 : Nat) (Z : jZ) (I : jI) (L : jL) (Q : Int32 → jI → jL → Prop) : Prop := (((I v0 7) ≤ (I v0 6) → Q (0 : Int32) I L) ∧ (¬ ((I v0 7) ≤ (I v0 6)) → (f_X9_readMark v0 v1 (59 : Int32) Z I L (fun r7 I4 L5 => ((r7 = 0 → Q (0 : Int32) I4 L5) ∧ (¬ (r7 = 0) → Q (1 : Int32) I4 L5))))))
set_option maxHeartbeats 4000000 in
set_option maxRecDepth 100000 in
theorem c_X9_readBreak (l : Launch) (D : va_G) (cy : jC) (v0 : Nat) (v1 : Nat) (Z : jZ) (I : jI) (L : jL) (Q : Int32 → jI → jL → Prop) (hZ : SH Z) (kv0 : jk Z v0 9) (kv1 : jk Z v1 10) (h : f_X9_readBreak v0 v1 Z I L Q) : jCt l yX9_readBreak w_X9_readBreak { frames := 3, cells := 0, slots := 0, locals := 64 } D cy [.ref v0, .ref v1] Z I L (rtZ Z Q) := by
  refine jCt_of (cc := cX9_readBreak) (maxL := 2) (ret := (some .boolean)) (by decide +kernel) rfl (Nat.le_of_ble_eq_true rfl) ?_
  intro G eD eY eL E
  subst eD; subst eY; subst eL
  have E : jE G cX9_readBreak RX9 w_X9_readBreak 2 (some .boolean) { frames := 3, cells := 0, slots := 0, locals := 64 } (rtZ Z Q) := E
  show jJ G 2 0 [(0, .ref v0), (1, .ref v1)] [] Z I L 0 0
  refine j_aload_n E dX9_readBreak_0 0 rfl ?_
  refine j_geti E 9 6 rfl rfl (by decide) (by decide) (iw iT_9) rfl rfl (tw W_358) kv0 dX9_readBreak_1 ?_
  refine j_aload_n E dX9_readBreak_4 0 rfl ?_
  refine j_geti E 9 7 rfl rfl (by decide) (by decide) (iw iT_9) rfl rfl (tw W_359) kv0 dX9_readBreak_5 ?_
  refine j_icmp_ge E 25 dX9_readBreak_8 (by decide) (fun c1 => ?_) (fun c1 => ?_)
  · have h := h.1 c1
    refine j_iconst E (v := 0) dX9_readBreak_25 (by decide) ?_
    exact j_zreturn E (Or.inl rfl) ⟨rfl, _, rfl, (Or.inl rfl), h⟩ (Nat.zero_le _) (Nat.zero_le _) dX9_readBreak_26
  · have h := h.2 c1
    refine j_aload_n E dX9_readBreak_11 0 rfl ?_
    refine j_aload_n E dX9_readBreak_12 1 rfl ?_
    refine j_bipush E (v := 59) dX9_readBreak_13 (by decide) ?_
    refine j_callV E [.ref v1, .int (59 : Int32)] [] (c_X9_readMark (gL G) (gD G) (gY G) v0 v1 (59 : Int32) Z I L _ hZ kv0 kv1 h) (gwV W_390 W_391 W_392 W_362 W_389) rfl ⟨rfl, fy_X9_readMark⟩ ⟨by decide, by decide⟩ (c := 9) rfl (by decide) kv0 rfl rfl (Nat.le_of_ble_eq_true rfl) ⟨Nat.zero_le _, Nat.zero_le _⟩ dX9_readBreak_15 (fun v2 Z3 I4 L5 q6 => ?_)
    obtain ⟨rfl, r7, rfl, zr7, h⟩ := q6
    show jJ G 2 18 [(0, .ref v0), (1, .ref v1)] [.int r7] Z I4 L5 0 0
    refine j_if_eq E 25 dX9_readBreak_18 (by decide) (fun c8 => ?_) (fun c8 => ?_)
    · have h := h.1 c8
      refine j_iconst E (v := 0) dX9_readBreak_25 (by decide) ?_
      exact j_zreturn E (Or.inl rfl) ⟨rfl, _, rfl, (Or.inl rfl), h⟩ (Nat.zero_le _) (Nat.zero_le _) dX9_readBreak_26
    · have h := h.2 c8
      refine j_iconst E (v := 1) dX9_readBreak_21 (by decide) ?_
      refine j_goto E 26 dX9_readBreak_22 (by decide) ?_
      exact j_zreturn E (Or.inr rfl) ⟨rfl, _, rfl, (Or.inr rfl), h⟩ (Nat.zero_le _) (Nat.zero_le _) dX9_readBreak_26
set_option maxRecDepth 100000 in
def f_X9_read_b104  (Z : jZ) (Q : Int32 → jI → jL → Prop) (v0 : Nat) (I : jI) (L : jL) : Prop := (((I v0 8) = (-1 : Int32) → (((2 : Int32) ≤ (I v0 5) → Q (I v0 5) I L) ∧ (¬ ((2 : Int32) ≤ (I v0 5)) → Q (-100 : Int32) I L))) ∧ (¬ ((I v0 8) = (-1 : Int32)) → Q ((-1 : Int32) - (I v0 8)) I L))
set_option maxHeartbeats 4000000 in
set_option maxRecDepth 100000 in
theorem m_X9_read_b104 {G : jG} {Z : jZ} {Q : Int32 → jI → jL → Prop} (E : jE G cX9_read RX9 w_X9_read 4 (some .int) { frames := 5, cells := 0, slots := 0, locals := 117 } (rtI Z Q)) (hZ : SH Z)  (v0 : Nat) (I : jI) (L : jL) (kv0 : jk Z v0 9) (h : f_X9_read_b104  Z Q v0 I L) : jJ G 4 104 [(0, .ref v0)] [] Z I L 0 0 := by
  refine j_aload_n E dX9_read_104 0 rfl ?_
  refine j_geti E 9 8 rfl rfl (by decide) (by decide) (iw iT_9) rfl rfl (tw W_357) kv0 dX9_read_105 ?_
  refine j_iconst E (v := -1) dX9_read_108 (by decide) ?_
  refine j_icmp_eq E 119 dX9_read_109 (by decide) (fun c1 => ?_) (fun c1 => ?_)
  · have h := h.1 c1
    refine j_aload_n E dX9_read_119 0 rfl ?_
    refine j_geti E 9 5 rfl rfl (by decide) (by decide) (iw iT_9) rfl rfl (tw W_371) kv0 dX9_read_120 ?_
    refine j_iconst E (v := 2) dX9_read_123 (by decide) ?_
    refine j_icmp_ge E 132 dX9_read_124 (by decide) (fun c2 => ?_) (fun c2 => ?_)
    · have h := h.1 c2
      refine j_aload_n E dX9_read_132 0 rfl ?_
      refine j_geti E 9 5 rfl rfl (by decide) (by decide) (iw iT_9) rfl rfl (tw W_371) kv0 dX9_read_133 ?_
      exact j_ireturn E ⟨rfl, _, rfl, h⟩ (Nat.zero_le _) (Nat.zero_le _) dX9_read_136
    · have h := h.2 c2
      refine j_bipush E (v := -100) dX9_read_127 (by decide) ?_
      refine j_goto E 136 dX9_read_129 (by decide) ?_
      exact j_ireturn E ⟨rfl, _, rfl, h⟩ (Nat.zero_le _) (Nat.zero_le _) dX9_read_136
  · have h := h.2 c1
    refine j_iconst E (v := -1) dX9_read_112 (by decide) ?_
    refine j_aload_n E dX9_read_113 0 rfl ?_
    refine j_geti E 9 8 rfl rfl (by decide) (by decide) (iw iT_9) rfl rfl (tw W_357) kv0 dX9_read_114 ?_
    refine j_isub E dX9_read_117 ?_
    exact j_ireturn E ⟨rfl, _, rfl, h⟩ (Nat.zero_le _) (Nat.zero_le _) dX9_read_118
set_option maxRecDepth 100000 in
def f_X9_read_b81  (Z : jZ) (Q : Int32 → jI → jL → Prop) (v0 : Nat) (v1 : Nat) (I : jI) (L : jL) : Prop := ((¬ (I v0 8) = (-1 : Int32) → f_X9_read_b104  Z Q v0 I L) ∧ ((I v0 8) = (-1 : Int32) → (((I v1 1) ≤ (76 : Int32) → f_X9_read_b104  Z Q v0 I L) ∧ (¬ ((I v1 1) ≤ (76 : Int32)) → (∀ I5 : jI, I5 = jpI I v0 8 (76 : Int32) → f_X9_read_b104  Z Q v0 I5 L)))))
set_option maxHeartbeats 4000000 in
set_option maxRecDepth 100000 in
theorem m_X9_read_b81 {G : jG} {Z : jZ} {Q : Int32 → jI → jL → Prop} (E : jE G cX9_read RX9 w_X9_read 4 (some .int) { frames := 5, cells := 0, slots := 0, locals := 117 } (rtI Z Q)) (hZ : SH Z)  (v0 : Nat) (v1 : Nat) (I : jI) (L : jL) (kv0 : jk Z v0 9) (kv1 : jk Z v1 10) (h : f_X9_read_b81  Z Q v0 v1 I L) : jJ G 4 81 [(0, .ref v0), (1, .ref v1)] [] Z I L 0 0 := by
  refine j_aload_n E dX9_read_81 0 rfl ?_
  refine j_geti E 9 8 rfl rfl (by decide) (by decide) (iw iT_9) rfl rfl (tw W_357) kv0 dX9_read_82 ?_
  refine j_iconst E (v := -1) dX9_read_85 (by decide) ?_
  refine j_icmp_ne E 104 dX9_read_86 (by decide) (fun c3 => ?_) (fun c3 => ?_)
  · have h := h.1 c3
    refine j_sub [0] rfl ?_
    exact m_X9_read_b104 E hZ  v0 I L kv0 h
  · have h := h.2 c3
    refine j_aload_n E dX9_read_89 1 rfl ?_
    refine j_getiN E 10 1 rfl rfl (by decide) (by decide) (iw iT_10) rfl rfl (nw_10_1_X9_40) kv1 dX9_read_90 ?_
    refine j_bipush E (v := 76) dX9_read_93 (by decide) ?_
    refine j_icmp_le E 104 dX9_read_95 (by decide) (fun c4 => ?_) (fun c4 => ?_)
    · have h := h.1 c4
      refine j_sub [0] rfl ?_
      exact m_X9_read_b104 E hZ  v0 I L kv0 h
    · have h := h.2 c4
      refine j_aload_n E dX9_read_98 0 rfl ?_
      refine j_bipush E (v := 76) dX9_read_99 (by decide) ?_
      refine j_puti E 9 8 rfl rfl (by decide) (by decide) (iw iT_9) tyX9_ok nmX9 rfl rfl (tw W_357) rfl rfl rfl kv0 dX9_read_101 ?_
      refine j_nmI (fun I5 eI5 => ?_)
      have h := h I5 eI5
      refine j_sub [0] rfl ?_
      exact m_X9_read_b104 E hZ  v0 I5 L kv0 h
set_option maxRecDepth 100000 in
def f_X9_read_b74 (K43 : Nat → Nat → Int32 → Int32 → jI → jL → Prop) (Z : jZ) (Q : Int32 → jI → jL → Prop) (v0 : Nat) (v1 : Nat) (v3 : Int32) (s0 : Int32) (I : jI) (L : jL) : Prop := (∀ x6 : Int32, x6 = v3 + 1 → K43 v0 v1 s0 x6 I L)
set_option maxHeartbeats 4000000 in
set_option maxRecDepth 100000 in
theorem m_X9_read_b74 {G : jG} {Z : jZ} {Q : Int32 → jI → jL → Prop} (E : jE G cX9_read RX9 w_X9_read 4 (some .int) { frames := 5, cells := 0, slots := 0, locals := 117 } (rtI Z Q)) (hZ : SH Z) (K43 : Nat → Nat → Int32 → Int32 → jI → jL → Prop) (hK43 : ∀ (v0 : Nat) (v1 : Nat) (v2 : Int32) (v3 : Int32) (I : jI) (L : jL), jk Z v0 9 → jk Z v1 10 → K43 v0 v1 v2 v3 I L → jJ G 4 43 [(0, .ref v0), (1, .ref v1), (2, .int v2), (3, .int v3)] [] Z I L 0 0) (v0 : Nat) (v1 : Nat) (v3 : Int32) (s0 : Int32) (I : jI) (L : jL) (kv0 : jk Z v0 9) (kv1 : jk Z v1 10) (h : f_X9_read_b74 K43 Z Q v0 v1 v3 s0 I L) : jJ G 4 74 [(0, .ref v0), (1, .ref v1), (3, .int v3)] [.int s0] Z I L 0 0 := by
  refine j_istore_n E 2 [(2, .int s0), (0, .ref v0), (1, .ref v1), (3, .int v3)] dX9_read_74 rfl (by decide) rfl ?_
  obtain ⟨x6, ex6⟩ : ∃ y : Int32, y = v3 + 1 := ⟨_, rfl⟩
  have h := h x6 ex6
  refine j_iinc E x6 [(3, .int x6), (2, .int s0), (0, .ref v0), (1, .ref v1)] dX9_read_75 3 rfl (by rw [ex6]; rfl) (by decide) rfl ?_
  refine j_goto E 43 dX9_read_78 (by decide) ?_
  refine j_sub [2, 3, 1, 0] rfl ?_
  exact hK43 v0 v1 s0 x6 I L kv0 kv1 h
set_option maxRecDepth 100000 in
def f_X9_read_b73 (K43 : Nat → Nat → Int32 → Int32 → jI → jL → Prop) (Z : jZ) (Q : Int32 → jI → jL → Prop) (v0 : Nat) (v1 : Nat) (v3 : Int32) (I : jI) (L : jL) : Prop := f_X9_read_b74 K43 Z Q v0 v1 v3 (0 : Int32) I L
set_option maxHeartbeats 4000000 in
set_option maxRecDepth 100000 in
theorem m_X9_read_b73 {G : jG} {Z : jZ} {Q : Int32 → jI → jL → Prop} (E : jE G cX9_read RX9 w_X9_read 4 (some .int) { frames := 5, cells := 0, slots := 0, locals := 117 } (rtI Z Q)) (hZ : SH Z) (K43 : Nat → Nat → Int32 → Int32 → jI → jL → Prop) (hK43 : ∀ (v0 : Nat) (v1 : Nat) (v2 : Int32) (v3 : Int32) (I : jI) (L : jL), jk Z v0 9 → jk Z v1 10 → K43 v0 v1 v2 v3 I L → jJ G 4 43 [(0, .ref v0), (1, .ref v1), (2, .int v2), (3, .int v3)] [] Z I L 0 0) (v0 : Nat) (v1 : Nat) (v3 : Int32) (I : jI) (L : jL) (kv0 : jk Z v0 9) (kv1 : jk Z v1 10) (h : f_X9_read_b73 K43 Z Q v0 v1 v3 I L) : jJ G 4 73 [(0, .ref v0), (1, .ref v1), (3, .int v3)] [] Z I L 0 0 := by
  refine j_iconst E (v := 0) dX9_read_73 (by decide) ?_
  refine j_sub [0, 1, 2] rfl ?_
  exact m_X9_read_b74 E hZ K43 hK43 v0 v1 v3 (0 : Int32) I L kv0 kv1 h
set_option maxRecDepth 100000 in
def f_X9_read_L43  (Z : jZ) (Q : Int32 → jI → jL → Prop) : Nat → Nat → Nat → Int32 → Int32 → jI → jL → Prop
  | 0 => fun _ _ _ _ _ _ => False
  | n + 1 => fun v0 v1 v2 v3 I L => ((v2 = 0 → f_X9_read_b81  Z Q v0 v1 I L) ∧ (¬ (v2 = 0) → (((76 : Int32) ≤ v3 → f_X9_read_b81  Z Q v0 v1 I L) ∧ (¬ ((76 : Int32) ≤ v3) → (f_X9_readLine v0 v1 Z I L (fun r14 I11 L12 => ((r14 = 0 → f_X9_read_b73 (f_X9_read_L43 Z Q n) Z Q v0 v1 v3 I11 L12) ∧ (¬ (r14 = 0) → (f_X9_readBreak v0 v1 Z I11 L12 (fun r21 I18 L19 => ((r21 = 0 → f_X9_read_b73 (f_X9_read_L43 Z Q n) Z Q v0 v1 v3 I18 L19) ∧ (¬ (r21 = 0) → f_X9_read_b74 (f_X9_read_L43 Z Q n) Z Q v0 v1 v3 (1 : Int32) I18 L19))))))))))))
set_option maxHeartbeats 4000000 in
set_option maxRecDepth 100000 in
theorem m_X9_read_L43 {G : jG} {Z : jZ} {Q : Int32 → jI → jL → Prop} (E : jE G cX9_read RX9 w_X9_read 4 (some .int) { frames := 5, cells := 0, slots := 0, locals := 117 } (rtI Z Q)) (hZ : SH Z)  : ∀ (n : Nat) (v0 : Nat) (v1 : Nat) (v2 : Int32) (v3 : Int32) (I : jI) (L : jL), jk Z v0 9 → jk Z v1 10 → f_X9_read_L43  Z Q n v0 v1 v2 v3 I L → jJ G 4 43 [(0, .ref v0), (1, .ref v1), (2, .int v2), (3, .int v3)] [] Z I L 0 0 := by
  intro n
  induction n with
  | zero => intro v0 v1 v2 v3 I L _ _ h; exact h.elim
  | succ n ih =>
    intro v0 v1 v2 v3 I L kv0 kv1 h
    have h : ((v2 = 0 → f_X9_read_b81  Z Q v0 v1 I L) ∧ (¬ (v2 = 0) → (((76 : Int32) ≤ v3 → f_X9_read_b81  Z Q v0 v1 I L) ∧ (¬ ((76 : Int32) ≤ v3) → (f_X9_readLine v0 v1 Z I L (fun r14 I11 L12 => ((r14 = 0 → f_X9_read_b73 (f_X9_read_L43 Z Q n) Z Q v0 v1 v3 I11 L12) ∧ (¬ (r14 = 0) → (f_X9_readBreak v0 v1 Z I11 L12 (fun r21 I18 L19 => ((r21 = 0 → f_X9_read_b73 (f_X9_read_L43 Z Q n) Z Q v0 v1 v3 I18 L19) ∧ (¬ (r21 = 0) → f_X9_read_b74 (f_X9_read_L43 Z Q n) Z Q v0 v1 v3 (1 : Int32) I18 L19)))))))))))) := h
    obtain ⟨K43, eK43⟩ : ∃ K : Nat → Nat → Int32 → Int32 → jI → jL → Prop, K = f_X9_read_L43  Z Q n := ⟨_, rfl⟩
    have hK43 := ih
    clear eK43 K43
    generalize f_X9_read_L43  Z Q n = K43 at hK43 h
    refine j_iload_n E dX9_read_43 2 rfl ?_
    refine j_if_eq E 81 dX9_read_44 (by decide) (fun c7 => ?_) (fun c7 => ?_)
    · have h := h.1 c7
      refine j_sub [0, 1] rfl ?_
      exact m_X9_read_b81 E hZ  v0 v1 I L kv0 kv1 h
    · have h := h.2 c7
      refine j_iload_n E dX9_read_47 3 rfl ?_
      refine j_bipush E (v := 76) dX9_read_48 (by decide) ?_
      refine j_icmp_ge E 81 dX9_read_50 (by decide) (fun c8 => ?_) (fun c8 => ?_)
      · have h := h.1 c8
        refine j_sub [0, 1] rfl ?_
        exact m_X9_read_b81 E hZ  v0 v1 I L kv0 kv1 h
      · have h := h.2 c8
        refine j_aload_n E dX9_read_53 0 rfl ?_
        refine j_aload_n E dX9_read_54 1 rfl ?_
        refine j_callV E [.ref v1] [] (c_X9_readLine (gL G) (gD G) (gY G) v0 v1 Z I L _ hZ kv0 kv1 h) (gwV W_398 W_399 W_400 W_362 W_397) rfl ⟨rfl, fy_X9_readLine⟩ ⟨by decide, by decide⟩ (c := 9) rfl (by decide) kv0 rfl rfl (Nat.le_of_ble_eq_true rfl) ⟨Nat.zero_le _, Nat.zero_le _⟩ dX9_read_55 (fun v9 Z10 I11 L12 q13 => ?_)
        obtain ⟨rfl, r14, rfl, zr14, h⟩ := q13
        show jJ G 4 58 [(0, .ref v0), (1, .ref v1), (2, .int v2), (3, .int v3)] [.int r14] Z I11 L12 0 0
        refine j_if_eq E 73 dX9_read_58 (by decide) (fun c15 => ?_) (fun c15 => ?_)
        · have h := h.1 c15
          refine j_sub [0, 1, 3] rfl ?_
          exact m_X9_read_b73 E hZ K43 hK43 v0 v1 v3 I11 L12 kv0 kv1 h
        · have h := h.2 c15
          refine j_aload_n E dX9_read_61 0 rfl ?_
          refine j_aload_n E dX9_read_62 1 rfl ?_
          refine j_callV E [.ref v1] [] (c_X9_readBreak (gL G) (gD G) (gY G) v0 v1 Z I11 L12 _ hZ kv0 kv1 h) (gwV W_402 W_403 W_404 W_362 W_401) rfl ⟨rfl, fy_X9_readBreak⟩ ⟨by decide, by decide⟩ (c := 9) rfl (by decide) kv0 rfl rfl (Nat.le_of_ble_eq_true rfl) ⟨Nat.zero_le _, Nat.zero_le _⟩ dX9_read_63 (fun v16 Z17 I18 L19 q20 => ?_)
          obtain ⟨rfl, r21, rfl, zr21, h⟩ := q20
          show jJ G 4 66 [(0, .ref v0), (1, .ref v1), (2, .int v2), (3, .int v3)] [.int r21] Z I18 L19 0 0
          refine j_if_eq E 73 dX9_read_66 (by decide) (fun c22 => ?_) (fun c22 => ?_)
          · have h := h.1 c22
            refine j_sub [0, 1, 3] rfl ?_
            exact m_X9_read_b73 E hZ K43 hK43 v0 v1 v3 I18 L19 kv0 kv1 h
          · have h := h.2 c22
            refine j_iconst E (v := 1) dX9_read_69 (by decide) ?_
            refine j_goto E 74 dX9_read_70 (by decide) ?_
            refine j_sub [0, 1, 3] rfl ?_
            exact m_X9_read_b74 E hZ K43 hK43 v0 v1 v3 (1 : Int32) I18 L19 kv0 kv1 h
set_option maxRecDepth 100000 in
def f_X9_read_b40  (Z : jZ) (Q : Int32 → jI → jL → Prop) (v0 : Nat) (v1 : Nat) (s0 : Int32) (I : jI) (L : jL) : Prop := (∃ m43 : Nat, f_X9_read_L43  Z Q m43 v0 v1 s0 (0 : Int32) I L)
set_option maxHeartbeats 4000000 in
set_option maxRecDepth 100000 in
theorem m_X9_read_b40 {G : jG} {Z : jZ} {Q : Int32 → jI → jL → Prop} (E : jE G cX9_read RX9 w_X9_read 4 (some .int) { frames := 5, cells := 0, slots := 0, locals := 117 } (rtI Z Q)) (hZ : SH Z)  (v0 : Nat) (v1 : Nat) (s0 : Int32) (I : jI) (L : jL) (kv0 : jk Z v0 9) (kv1 : jk Z v1 10) (h : f_X9_read_b40  Z Q v0 v1 s0 I L) : jJ G 4 40 [(0, .ref v0), (1, .ref v1)] [.int s0] Z I L 0 0 := by
  refine j_istore_n E 2 [(2, .int s0), (0, .ref v0), (1, .ref v1)] dX9_read_40 rfl (by decide) rfl ?_
  refine j_iconst E (v := 0) dX9_read_41 (by decide) ?_
  refine j_istore_n E 3 [(3, .int (0 : Int32)), (2, .int s0), (0, .ref v0), (1, .ref v1)] dX9_read_42 rfl (by decide) rfl ?_
  obtain ⟨n23, h⟩ := h
  refine j_sub [2, 3, 1, 0] rfl ?_
  exact m_X9_read_L43 E hZ  n23 v0 v1 s0 (0 : Int32) I L kv0 kv1 h
set_option maxRecDepth 100000 in
def f_X9_read (v0 : Nat) (v1 : Nat) (Z : jZ) (I : jI) (L : jL) (Q : Int32 → jI → jL → Prop) : Prop := (∀ I24 : jI, I24 = jpI I v0 5 (0 : Int32) → (∀ I25 : jI, I25 = jpI I24 v0 6 (0 : Int32) → (∀ I26 : jI, I26 = jpI I25 v0 8 (-1 : Int32) → (∀ I27 : jI, I27 = jpI I26 v0 7 (if (76 : Int32) < (I26 v1 1) then (76 : Int32) else (I26 v1 1)) → (((I27 v1 1) ≤ 0 → f_X9_read_b40  Z Q v0 v1 (0 : Int32) I27 L) ∧ (¬ ((I27 v1 1) ≤ 0) → f_X9_read_b40  Z Q v0 v1 (1 : Int32) I27 L))))))
set_option maxHeartbeats 4000000 in
set_option maxRecDepth 100000 in
theorem c_X9_read (l : Launch) (D : va_G) (cy : jC) (v0 : Nat) (v1 : Nat) (Z : jZ) (I : jI) (L : jL) (Q : Int32 → jI → jL → Prop) (hZ : SH Z) (kv0 : jk Z v0 9) (kv1 : jk Z v1 10) (h : f_X9_read v0 v1 Z I L Q) : jCt l yX9_read w_X9_read { frames := 5, cells := 0, slots := 0, locals := 117 } D cy [.ref v0, .ref v1] Z I L (rtI Z Q) := by
  refine jCt_of (cc := cX9_read) (maxL := 4) (ret := (some .int)) (by decide +kernel) rfl (Nat.le_of_ble_eq_true rfl) ?_
  intro G eD eY eL E
  subst eD; subst eY; subst eL
  have E : jE G cX9_read RX9 w_X9_read 4 (some .int) { frames := 5, cells := 0, slots := 0, locals := 117 } (rtI Z Q) := E
  show jJ G 4 0 [(0, .ref v0), (1, .ref v1)] [] Z I L 0 0
  refine j_aload_n E dX9_read_0 0 rfl ?_
  refine j_iconst E (v := 0) dX9_read_1 (by decide) ?_
  refine j_puti E 9 5 rfl rfl (by decide) (by decide) (iw iT_9) tyX9_ok nmX9 rfl rfl (tw W_371) rfl rfl rfl kv0 dX9_read_2 ?_
  refine j_nmI (fun I24 eI24 => ?_)
  have h := h I24 eI24
  refine j_aload_n E dX9_read_5 0 rfl ?_
  refine j_iconst E (v := 0) dX9_read_6 (by decide) ?_
  refine j_puti E 9 6 rfl rfl (by decide) (by decide) (iw iT_9) tyX9_ok nmX9 rfl rfl (tw W_358) rfl rfl rfl kv0 dX9_read_7 ?_
  refine j_nmI (fun I25 eI25 => ?_)
  have h := h I25 eI25
  refine j_aload_n E dX9_read_10 0 rfl ?_
  refine j_iconst E (v := -1) dX9_read_11 (by decide) ?_
  refine j_puti E 9 8 rfl rfl (by decide) (by decide) (iw iT_9) tyX9_ok nmX9 rfl rfl (tw W_357) rfl rfl rfl kv0 dX9_read_12 ?_
  refine j_nmI (fun I26 eI26 => ?_)
  have h := h I26 eI26
  refine j_aload_n E dX9_read_15 0 rfl ?_
  refine j_aload_n E dX9_read_16 1 rfl ?_
  refine j_getiN E 10 1 rfl rfl (by decide) (by decide) (iw iT_10) rfl rfl (nw_10_1_X9_40) kv1 dX9_read_17 ?_
  refine j_bipush E (v := 76) dX9_read_20 (by decide) ?_
  refine j_min E (tw W_405) (tw W_118) (tw W_119) (tw W_120) (by decide) (Nat.le_of_ble_eq_true rfl) (Nat.zero_le _) (Nat.zero_le _) dX9_read_22 ?_
  refine j_puti E 9 7 rfl rfl (by decide) (by decide) (iw iT_9) tyX9_ok nmX9 rfl rfl (tw W_359) rfl rfl rfl kv0 dX9_read_25 ?_
  refine j_nmI (fun I27 eI27 => ?_)
  have h := h I27 eI27
  refine j_aload_n E dX9_read_28 1 rfl ?_
  refine j_getiN E 10 1 rfl rfl (by decide) (by decide) (iw iT_10) rfl rfl (nw_10_1_X9_40) kv1 dX9_read_29 ?_
  refine j_if_le E 39 dX9_read_32 (by decide) (fun c28 => ?_) (fun c28 => ?_)
  · have h := h.1 c28
    refine j_iconst E (v := 0) dX9_read_39 (by decide) ?_
    refine j_sub [0, 1] rfl ?_
    exact m_X9_read_b40 E hZ  v0 v1 (0 : Int32) I27 L kv0 kv1 h
  · have h := h.2 c28
    refine j_iconst E (v := 1) dX9_read_35 (by decide) ?_
    refine j_goto E 40 dX9_read_36 (by decide) ?_
    refine j_sub [0, 1] rfl ?_
    exact m_X9_read_b40 E hZ  v0 v1 (1 : Int32) I27 L kv0 kv1 h
set_option maxRecDepth 100000 in
def f_X10_append_L16  (Z : jZ) (Q : Int32 → jI → jL → Prop) : Nat → Nat → Int32 → Int32 → jI → jL → Prop
  | 0 => fun _ _ _ _ _ => False
  | n + 1 => fun v0 v1 v2 I L => ((v2 < 0 → Q (1 : Int32) I L) ∧ (¬ (v2 < 0) → (∀ b2 : Nat, jr Z v0 0 = some b2 → (vp_in (I v0 1) 80 ∧ (∀ I4 : jI, I4 = jpI I b2 (I v0 1).toNatClampNeg (vp_nar .byte ((v1 >>> (v2 &&& 31)).toInt8.toInt32)) → (∀ I5 : jI, I5 = jpI I4 v0 1 ((I4 v0 1) + (1 : Int32)) → (∀ x6 : Int32, x6 = v2 + (-8) → (f_X10_append_L16 Z Q n) v0 v1 x6 I5 L)))))))
set_option maxHeartbeats 4000000 in
set_option maxRecDepth 100000 in
theorem m_X10_append_L16 {G : jG} {Z : jZ} {Q : Int32 → jI → jL → Prop} (E : jE G cX10_append RX10 w_X10_append 3 (some .boolean) { frames := 0, cells := 0, slots := 0, locals := 0 } (rtZ Z Q)) (hZ : SH Z)  : ∀ (n : Nat) (v0 : Nat) (v1 : Int32) (v2 : Int32) (I : jI) (L : jL), jk Z v0 10 → f_X10_append_L16  Z Q n v0 v1 v2 I L → jJ G 3 16 [(0, .ref v0), (1, .int v1), (2, .int v2)] [] Z I L 0 0 := by
  intro n
  induction n with
  | zero => intro v0 v1 v2 I L _ h; exact h.elim
  | succ n ih =>
    intro v0 v1 v2 I L kv0 h
    have h : ((v2 < 0 → Q (1 : Int32) I L) ∧ (¬ (v2 < 0) → (∀ b2 : Nat, jr Z v0 0 = some b2 → (vp_in (I v0 1) 80 ∧ (∀ I4 : jI, I4 = jpI I b2 (I v0 1).toNatClampNeg (vp_nar .byte ((v1 >>> (v2 &&& 31)).toInt8.toInt32)) → (∀ I5 : jI, I5 = jpI I4 v0 1 ((I4 v0 1) + (1 : Int32)) → (∀ x6 : Int32, x6 = v2 + (-8) → (f_X10_append_L16 Z Q n) v0 v1 x6 I5 L))))))) := h
    obtain ⟨K16, eK16⟩ : ∃ K : Nat → Int32 → Int32 → jI → jL → Prop, K = f_X10_append_L16  Z Q n := ⟨_, rfl⟩
    have hK16 := ih
    clear eK16 K16
    generalize f_X10_append_L16  Z Q n = K16 at hK16 h
    refine j_iload_n E dX10_append_16 2 rfl ?_
    refine j_if_lt E 49 dX10_append_17 (by decide) (fun c1 => ?_) (fun c1 => ?_)
    · have h := h.1 c1
      refine j_iconst E (v := 1) dX10_append_49 (by decide) ?_
      exact j_zreturn E (Or.inr rfl) ⟨rfl, _, rfl, (Or.inr rfl), h⟩ (Nat.zero_le _) (Nat.zero_le _) dX10_append_50
    · have h := h.2 c1
      refine j_aload_n E dX10_append_20 0 rfl ?_
      obtain ⟨b2, eb2, kb2, lb2⟩ := sh_f hZ kv0 (j := 0) (k := 13) (m := 80) rfl
      have h := h b2 eb2
      refine j_getr E 10 0 rfl rfl (by decide) (by decide) (iw iT_10) rfl rfl (tw W_179) kv0 eb2 dX10_append_21 ?_
      refine j_aload_n E dX10_append_24 0 rfl ?_
      refine j_geti E 10 1 rfl rfl (by decide) (by decide) (iw iT_10) rfl rfl (tw W_178) kv0 dX10_append_25 ?_
      refine j_iload_n E dX10_append_28 1 rfl ?_
      refine j_iload_n E dX10_append_29 2 rfl ?_
      refine j_ishr E dX10_append_30 ?_
      refine j_i2b E dX10_append_31 ?_
      obtain ⟨o3, h⟩ := h
      refine j_bast E kb2 (by rw [lb2]; exact o3) dX10_append_32 ?_
      refine j_nmI (fun I4 eI4 => ?_)
      have h := h I4 eI4
      refine j_aload_n E dX10_append_33 0 rfl ?_
      refine j_dup E dX10_append_34 rfl ?_
      refine j_geti E 10 1 rfl rfl (by decide) (by decide) (iw iT_10) rfl rfl (tw W_178) kv0 dX10_append_35 ?_
      refine j_iconst E (v := 1) dX10_append_38 (by decide) ?_
      refine j_iadd E dX10_append_39 ?_
      refine j_puti E 10 1 rfl rfl (by decide) (by decide) (iw iT_10) tyX10_ok nmX10 rfl rfl (tw W_178) rfl rfl rfl kv0 dX10_append_40 ?_
      refine j_nmI (fun I5 eI5 => ?_)
      have h := h I5 eI5
      obtain ⟨x6, ex6⟩ : ∃ y : Int32, y = v2 + (-8) := ⟨_, rfl⟩
      have h := h x6 ex6
      refine j_iinc E x6 [(2, .int x6), (0, .ref v0), (1, .int v1)] dX10_append_43 2 rfl (by rw [ex6]; rfl) (by decide) rfl ?_
      refine j_goto E 16 dX10_append_46 (by decide) ?_
      refine j_sub [1, 2, 0] rfl ?_
      exact hK16 v0 v1 x6 I5 L kv0 h
set_option maxRecDepth 100000 in
def f_X10_append (v0 : Nat) (v1 : Int32) (Z : jZ) (I : jI) (L : jL) (Q : Int32 → jI → jL → Prop) : Prop := ((((I v0 1) + (4 : Int32)) ≤ (80 : Int32) → (∃ m16 : Nat, f_X10_append_L16  Z Q m16 v0 v1 (24 : Int32) I L)) ∧ (¬ (((I v0 1) + (4 : Int32)) ≤ (80 : Int32)) → Q (0 : Int32) I L))
set_option maxHeartbeats 4000000 in
set_option maxRecDepth 100000 in
theorem c_X10_append (l : Launch) (D : va_G) (cy : jC) (v0 : Nat) (v1 : Int32) (Z : jZ) (I : jI) (L : jL) (Q : Int32 → jI → jL → Prop) (hZ : SH Z) (kv0 : jk Z v0 10) (h : f_X10_append v0 v1 Z I L Q) : jCt l yX10_append w_X10_append { frames := 0, cells := 0, slots := 0, locals := 0 } D cy [.ref v0, .int v1] Z I L (rtZ Z Q) := by
  refine jCt_of (cc := cX10_append) (maxL := 3) (ret := (some .boolean)) (by decide +kernel) rfl (Nat.le_of_ble_eq_true rfl) ?_
  intro G eD eY eL E
  subst eD; subst eY; subst eL
  have E : jE G cX10_append RX10 w_X10_append 3 (some .boolean) { frames := 0, cells := 0, slots := 0, locals := 0 } (rtZ Z Q) := E
  show jJ G 3 0 [(0, .ref v0), (1, .int v1)] [] Z I L 0 0
  refine j_aload_n E dX10_append_0 0 rfl ?_
  refine j_geti E 10 1 rfl rfl (by decide) (by decide) (iw iT_10) rfl rfl (tw W_178) kv0 dX10_append_1 ?_
  refine j_iconst E (v := 4) dX10_append_4 (by decide) ?_
  refine j_iadd E dX10_append_5 ?_
  refine j_bipush E (v := 80) dX10_append_6 (by decide) ?_
  refine j_icmp_le E 13 dX10_append_8 (by decide) (fun c7 => ?_) (fun c7 => ?_)
  · have h := h.1 c7
    refine j_bipush E (v := 24) dX10_append_13 (by decide) ?_
    refine j_istore_n E 2 [(2, .int (24 : Int32)), (0, .ref v0), (1, .int v1)] dX10_append_15 rfl (by decide) rfl ?_
    obtain ⟨n8, h⟩ := h
    refine j_sub [1, 2, 0] rfl ?_
    exact m_X10_append_L16 E hZ  n8 v0 v1 (24 : Int32) I L kv0 h
  · have h := h.2 c7
    refine j_iconst E (v := 0) dX10_append_11 (by decide) ?_
    exact j_zreturn E (Or.inl rfl) ⟨rfl, _, rfl, (Or.inl rfl), h⟩ (Nat.zero_le _) (Nat.zero_le _) dX10_append_12
set_option maxRecDepth 100000 in
def f_X10_cut (v0 : Nat) (v1 : Int32) (Z : jZ) (I : jI) (L : jL) (Q : Int32 → jI → jL → Prop) : Prop := ((v1 < 0 → Q (0 : Int32) I L) ∧ (¬ (v1 < 0) → ((v1 ≤ (I v0 1) → (∀ I3 : jI, I3 = jpI I v0 1 v1 → Q (1 : Int32) I3 L)) ∧ (¬ (v1 ≤ (I v0 1)) → Q (0 : Int32) I L))))
set_option maxHeartbeats 4000000 in
set_option maxRecDepth 100000 in
theorem c_X10_cut (l : Launch) (D : va_G) (cy : jC) (v0 : Nat) (v1 : Int32) (Z : jZ) (I : jI) (L : jL) (Q : Int32 → jI → jL → Prop) (hZ : SH Z) (kv0 : jk Z v0 10) (h : f_X10_cut v0 v1 Z I L Q) : jCt l yX10_cut w_X10_cut { frames := 0, cells := 0, slots := 0, locals := 0 } D cy [.ref v0, .int v1] Z I L (rtZ Z Q) := by
  refine jCt_of (cc := cX10_cut) (maxL := 2) (ret := (some .boolean)) (by decide +kernel) rfl (Nat.le_of_ble_eq_true rfl) ?_
  intro G eD eY eL E
  subst eD; subst eY; subst eL
  have E : jE G cX10_cut RX10 w_X10_cut 2 (some .boolean) { frames := 0, cells := 0, slots := 0, locals := 0 } (rtZ Z Q) := E
  show jJ G 2 0 [(0, .ref v0), (1, .int v1)] [] Z I L 0 0
  refine j_iload_n E dX10_cut_0 1 rfl ?_
  refine j_if_lt E 12 dX10_cut_1 (by decide) (fun c1 => ?_) (fun c1 => ?_)
  · have h := h.1 c1
    refine j_iconst E (v := 0) dX10_cut_12 (by decide) ?_
    exact j_zreturn E (Or.inl rfl) ⟨rfl, _, rfl, (Or.inl rfl), h⟩ (Nat.zero_le _) (Nat.zero_le _) dX10_cut_13
  · have h := h.2 c1
    refine j_iload_n E dX10_cut_4 1 rfl ?_
    refine j_aload_n E dX10_cut_5 0 rfl ?_
    refine j_geti E 10 1 rfl rfl (by decide) (by decide) (iw iT_10) rfl rfl (tw W_178) kv0 dX10_cut_6 ?_
    refine j_icmp_le E 14 dX10_cut_9 (by decide) (fun c2 => ?_) (fun c2 => ?_)
    · have h := h.1 c2
      refine j_aload_n E dX10_cut_14 0 rfl ?_
      refine j_iload_n E dX10_cut_15 1 rfl ?_
      refine j_puti E 10 1 rfl rfl (by decide) (by decide) (iw iT_10) tyX10_ok nmX10 rfl rfl (tw W_178) rfl rfl rfl kv0 dX10_cut_16 ?_
      refine j_nmI (fun I3 eI3 => ?_)
      have h := h I3 eI3
      refine j_iconst E (v := 1) dX10_cut_19 (by decide) ?_
      exact j_zreturn E (Or.inr rfl) ⟨rfl, _, rfl, (Or.inr rfl), h⟩ (Nat.zero_le _) (Nat.zero_le _) dX10_cut_20
    · have h := h.2 c2
      refine j_iconst E (v := 0) dX10_cut_12 (by decide) ?_
      exact j_zreturn E (Or.inl rfl) ⟨rfl, _, rfl, (Or.inl rfl), h⟩ (Nat.zero_le _) (Nat.zero_le _) dX10_cut_13
set_option maxRecDepth 100000 in
def f_X10_clear (v0 : Nat) (Z : jZ) (I : jI) (L : jL) (Q : jI → jL → Prop) : Prop := (∀ I1 : jI, I1 = jpI I v0 1 (0 : Int32) → Q I1 L)
set_option maxHeartbeats 4000000 in
set_option maxRecDepth 100000 in
theorem c_X10_clear (l : Launch) (D : va_G) (cy : jC) (v0 : Nat) (Z : jZ) (I : jI) (L : jL) (Q : jI → jL → Prop) (hZ : SH Z) (kv0 : jk Z v0 10) (h : f_X10_clear v0 Z I L Q) : jCt l yX10_clear w_X10_clear { frames := 0, cells := 0, slots := 0, locals := 0 } D cy [.ref v0] Z I L (rtV Z Q) := by
  refine jCt_of (cc := cX10_clear) (maxL := 1) (ret := none) (by decide +kernel) rfl (Nat.le_of_ble_eq_true rfl) ?_
  intro G eD eY eL E
  subst eD; subst eY; subst eL
  have E : jE G cX10_clear RX10 w_X10_clear 1 none { frames := 0, cells := 0, slots := 0, locals := 0 } (rtV Z Q) := E
  show jJ G 1 0 [(0, .ref v0)] [] Z I L 0 0
  refine j_aload_n E dX10_clear_0 0 rfl ?_
  refine j_iconst E (v := 0) dX10_clear_1 (by decide) ?_
  refine j_puti E 10 1 rfl rfl (by decide) (by decide) (iw iT_10) tyX10_ok nmX10 rfl rfl (tw W_178) rfl rfl rfl kv0 dX10_clear_2 ?_
  refine j_nmI (fun I1 eI1 => ?_)
  have h := h I1 eI1
  exact j_return E ⟨rfl, rfl, h⟩ (Nat.zero_le _) (Nat.zero_le _) dX10_clear_5
set_option maxRecDepth 100000 in
def f_X11_sign (v0 : Nat) (v1 : Int32) (Z : jZ) (I : jI) (L : jL) (Q : Int32 → jI → jL → Prop) : Prop := (∀ b1 : Nat, jr Z v0 0 = some b1 → (f_X10_append b1 v1 Z I L (fun r7 I4 L5 => ((r7 = 0 → Q (-1 : Int32) I4 L5) ∧ (¬ (r7 = 0) → (∀ b9 : Nat, jr Z v0 0 = some b9 → Q (I4 b9 1) I4 L5))))))
set_option maxHeartbeats 4000000 in
set_option maxRecDepth 100000 in
theorem c_X11_sign (l : Launch) (D : va_G) (cy : jC) (v0 : Nat) (v1 : Int32) (Z : jZ) (I : jI) (L : jL) (Q : Int32 → jI → jL → Prop) (hZ : SH Z) (kv0 : jk Z v0 11) (h : f_X11_sign v0 v1 Z I L Q) : jCt l yX11_sign w_X11_sign { frames := 1, cells := 0, slots := 0, locals := 22 } D cy [.ref v0, .int v1] Z I L (rtI Z Q) := by
  refine jCt_of (cc := cX11_sign) (maxL := 2) (ret := (some .int)) (by decide +kernel) rfl (Nat.le_of_ble_eq_true rfl) ?_
  intro G eD eY eL E
  subst eD; subst eY; subst eL
  have E : jE G cX11_sign RX11 w_X11_sign 2 (some .int) { frames := 1, cells := 0, slots := 0, locals := 22 } (rtI Z Q) := E
  show jJ G 2 0 [(0, .ref v0), (1, .int v1)] [] Z I L 0 0
  refine j_aload_n E dX11_sign_0 0 rfl ?_
  obtain ⟨b1, eb1, kb1⟩ := sh_o hZ kv0 (j := 0) (k := 10) rfl
  have h := h b1 eb1
  refine j_getr E 11 0 rfl rfl (by decide) (by decide) (iw iT_11) rfl rfl (tw W_406) kv0 eb1 dX11_sign_1 ?_
  refine j_iload_n E dX11_sign_4 1 rfl ?_
  refine j_callV E [.int v1] [] (c_X10_append (gL G) (gD G) (gY G) b1 v1 Z I L _ hZ kb1 h) (gwV W_408 W_409 W_410 W_183 W_407) rfl ⟨rfl, fy_X10_append⟩ ⟨by decide, by decide⟩ (c := 10) rfl (by decide) kb1 rfl rfl (Nat.le_of_ble_eq_true rfl) ⟨Nat.zero_le _, Nat.zero_le _⟩ dX11_sign_5 (fun v2 Z3 I4 L5 q6 => ?_)
  obtain ⟨rfl, r7, rfl, zr7, h⟩ := q6
  show jJ G 2 8 [(0, .ref v0), (1, .int v1)] [.int r7] Z I4 L5 0 0
  refine j_if_eq E 21 dX11_sign_8 (by decide) (fun c8 => ?_) (fun c8 => ?_)
  · have h := h.1 c8
    refine j_iconst E (v := -1) dX11_sign_21 (by decide) ?_
    exact j_ireturn E ⟨rfl, _, rfl, h⟩ (Nat.zero_le _) (Nat.zero_le _) dX11_sign_22
  · have h := h.2 c8
    refine j_aload_n E dX11_sign_11 0 rfl ?_
    obtain ⟨b9, eb9, kb9⟩ := sh_o hZ kv0 (j := 0) (k := 10) rfl
    have h := h b9 eb9
    refine j_getr E 11 0 rfl rfl (by decide) (by decide) (iw iT_11) rfl rfl (tw W_406) kv0 eb9 dX11_sign_12 ?_
    refine j_getiN E 10 1 rfl rfl (by decide) (by decide) (iw iT_10) rfl rfl (nw_10_1_X11_94) kb9 dX11_sign_15 ?_
    refine j_goto E 22 dX11_sign_18 (by decide) ?_
    exact j_ireturn E ⟨rfl, _, rfl, h⟩ (Nat.zero_le _) (Nat.zero_le _) dX11_sign_22
set_option maxRecDepth 100000 in
def f_X11_end (v0 : Nat) (v1 : Int32) (Z : jZ) (I : jI) (L : jL) (Q : Int32 → jI → jL → Prop) : Prop := (∀ b1 : Nat, jr Z v0 0 = some b1 → (f_X10_cut b1 v1 Z I L (fun r7 I4 L5 => Q r7 I4 L5)))
set_option maxHeartbeats 4000000 in
set_option maxRecDepth 100000 in
theorem c_X11_end (l : Launch) (D : va_G) (cy : jC) (v0 : Nat) (v1 : Int32) (Z : jZ) (I : jI) (L : jL) (Q : Int32 → jI → jL → Prop) (hZ : SH Z) (kv0 : jk Z v0 11) (h : f_X11_end v0 v1 Z I L Q) : jCt l yX11_end w_X11_end { frames := 1, cells := 0, slots := 0, locals := 21 } D cy [.ref v0, .int v1] Z I L (rtZ Z Q) := by
  refine jCt_of (cc := cX11_end) (maxL := 2) (ret := (some .boolean)) (by decide +kernel) rfl (Nat.le_of_ble_eq_true rfl) ?_
  intro G eD eY eL E
  subst eD; subst eY; subst eL
  have E : jE G cX11_end RX11 w_X11_end 2 (some .boolean) { frames := 1, cells := 0, slots := 0, locals := 21 } (rtZ Z Q) := E
  show jJ G 2 0 [(0, .ref v0), (1, .int v1)] [] Z I L 0 0
  refine j_aload_n E dX11_end_0 0 rfl ?_
  obtain ⟨b1, eb1, kb1⟩ := sh_o hZ kv0 (j := 0) (k := 10) rfl
  have h := h b1 eb1
  refine j_getr E 11 0 rfl rfl (by decide) (by decide) (iw iT_11) rfl rfl (tw W_406) kv0 eb1 dX11_end_1 ?_
  refine j_iload_n E dX11_end_4 1 rfl ?_
  refine j_callV E [.int v1] [] (c_X10_cut (gL G) (gD G) (gY G) b1 v1 Z I L _ hZ kb1 h) (gwV W_412 W_413 W_414 W_183 W_411) rfl ⟨rfl, fy_X10_cut⟩ ⟨by decide, by decide⟩ (c := 10) rfl (by decide) kb1 rfl rfl (Nat.le_of_ble_eq_true rfl) ⟨Nat.zero_le _, Nat.zero_le _⟩ dX11_end_5 (fun v2 Z3 I4 L5 q6 => ?_)
  obtain ⟨rfl, r7, rfl, zr7, h⟩ := q6
  show jJ G 2 8 [(0, .ref v0), (1, .int v1)] [.int r7] Z I4 L5 0 0
  exact j_zreturn E zr7 ⟨rfl, _, rfl, zr7, h⟩ (Nat.zero_le _) (Nat.zero_le _) dX11_end_8
set_option maxRecDepth 100000 in
def f_X11_find_b30  (Z : jZ) (Q : Option Nat → jI → jL → Prop)  (I : jI) (L : jL) : Prop := Q none I L
set_option maxHeartbeats 4000000 in
set_option maxRecDepth 100000 in
theorem m_X11_find_b30 {G : jG} {Z : jZ} {Q : Option Nat → jI → jL → Prop} (E : jE G cX11_find RX11 w_X11_find 2 (some (.object "StairsInSteps$Pilgrim")) { frames := 0, cells := 0, slots := 0, locals := 0 } (rtR 5 Z Q)) (hZ : SH Z)   (I : jI) (L : jL)  (h : f_X11_find_b30  Z Q  I L) : jJ G 2 30 [] [] Z I L 0 0 := by
  refine j_null E dX11_find_30 ?_
  exact j_areturn E (Or.inl ⟨_, rfl⟩) none rfl ⟨rfl, _, rfl, (fun _ q => by cases q), h⟩ (Nat.zero_le _) (Nat.zero_le _) dX11_find_31
set_option maxRecDepth 100000 in
def f_X11_find (v0 : Nat) (v1 : Int32) (Z : jZ) (I : jI) (L : jL) (Q : Option Nat → jI → jL → Prop) : Prop := ((v1 < 0 → f_X11_find_b30  Z Q  I L) ∧ (¬ (v1 < 0) → (((I v0 4) ≤ v1 → f_X11_find_b30  Z Q  I L) ∧ (¬ ((I v0 4) ≤ v1) → (∀ b3 : Nat, jr Z v0 3 = some b3 → (((6 : Int32) ≤ v1 → f_X11_find_b30  Z Q  I L) ∧ (¬ ((6 : Int32) ≤ v1) → (∀ b5 : Nat, jr Z v0 3 = some b5 → (vp_in v1 6 ∧ ((jr Z b5 v1.toNatClampNeg = none → Q none I L) ∧ (∀ b7 : Nat, jr Z b5 v1.toNatClampNeg = some b7 → Q (some b7) I L)))))))))))
set_option maxHeartbeats 4000000 in
set_option maxRecDepth 100000 in
theorem c_X11_find (l : Launch) (D : va_G) (cy : jC) (v0 : Nat) (v1 : Int32) (Z : jZ) (I : jI) (L : jL) (Q : Option Nat → jI → jL → Prop) (hZ : SH Z) (kv0 : jk Z v0 11) (h : f_X11_find v0 v1 Z I L Q) : jCt l yX11_find w_X11_find { frames := 0, cells := 0, slots := 0, locals := 0 } D cy [.ref v0, .int v1] Z I L (rtR 5 Z Q) := by
  refine jCt_of (cc := cX11_find) (maxL := 2) (ret := (some (.object "StairsInSteps$Pilgrim"))) (by decide +kernel) rfl (Nat.le_of_ble_eq_true rfl) ?_
  intro G eD eY eL E
  subst eD; subst eY; subst eL
  have E : jE G cX11_find RX11 w_X11_find 2 (some (.object "StairsInSteps$Pilgrim")) { frames := 0, cells := 0, slots := 0, locals := 0 } (rtR 5 Z Q) := E
  show jJ G 2 0 [(0, .ref v0), (1, .int v1)] [] Z I L 0 0
  refine j_iload_n E dX11_find_0 1 rfl ?_
  refine j_if_lt E 30 dX11_find_1 (by decide) (fun c1 => ?_) (fun c1 => ?_)
  · have h := h.1 c1
    refine j_sub [] rfl ?_
    exact m_X11_find_b30 E hZ   I L  h
  · have h := h.2 c1
    refine j_iload_n E dX11_find_4 1 rfl ?_
    refine j_aload_n E dX11_find_5 0 rfl ?_
    refine j_geti E 11 4 rfl rfl (by decide) (by decide) (iw iT_11) rfl rfl (tw W_415) kv0 dX11_find_6 ?_
    refine j_icmp_ge E 30 dX11_find_9 (by decide) (fun c2 => ?_) (fun c2 => ?_)
    · have h := h.1 c2
      refine j_sub [] rfl ?_
      exact m_X11_find_b30 E hZ   I L  h
    · have h := h.2 c2
      refine j_iload_n E dX11_find_12 1 rfl ?_
      refine j_aload_n E dX11_find_13 0 rfl ?_
      obtain ⟨b3, eb3, kb3, lb3⟩ := sh_f hZ kv0 (j := 3) (k := 18) (m := 6) rfl
      have h := h b3 eb3
      refine j_getr E 11 3 rfl rfl (by decide) (by decide) (iw iT_11) rfl rfl (tw W_416) kv0 eb3 dX11_find_14 ?_
      refine j_alen18 E (v := 6) kb3 (by rw [lb3]; rfl) dX11_find_17 ?_
      refine j_icmp_ge E 30 dX11_find_18 (by decide) (fun c4 => ?_) (fun c4 => ?_)
      · have h := h.1 c4
        refine j_sub [] rfl ?_
        exact m_X11_find_b30 E hZ   I L  h
      · have h := h.2 c4
        refine j_aload_n E dX11_find_21 0 rfl ?_
        obtain ⟨b5, eb5, kb5, lb5⟩ := sh_f hZ kv0 (j := 3) (k := 18) (m := 6) rfl
        have h := h b5 eb5
        refine j_getr E 11 3 rfl rfl (by decide) (by decide) (iw iT_11) rfl rfl (tw W_416) kv0 eb5 dX11_find_22 ?_
        refine j_iload_n E dX11_find_25 1 rfl ?_
        obtain ⟨o6, h⟩ := h
        refine j_aald18 E kb5 (by rw [lb5]; exact o6) dX11_find_26 ?_
        rcases c8 : jr Z b5 v1.toNatClampNeg with _ | b7
        · have h := h.1 c8
          refine j_rfN rfl ?_
          refine j_goto E 31 dX11_find_27 (by decide) ?_
          exact j_areturn E (Or.inl ⟨_, rfl⟩) none rfl ⟨rfl, _, rfl, (fun _ q => by cases q), h⟩ (Nat.zero_le _) (Nat.zero_le _) dX11_find_31
        · have h := h.2 b7 c8
          have kb7 := sh_p hZ kb5 c8
          refine j_rfS rfl ?_
          refine j_goto E 31 dX11_find_27 (by decide) ?_
          exact j_areturn E (Or.inl ⟨_, rfl⟩) (some b7) rfl ⟨rfl, _, rfl, (fun _ q => by cases q; exact kb7), h⟩ (Nat.zero_le _) (Nat.zero_le _) dX11_find_31
set_option maxRecDepth 100000 in
def f_X11_stairs_L76  (Z : jZ) (Q : Int32 → jI → jL → Prop) : Nat → Nat → Int32 → Int32 → jI → jL → Prop
  | 0 => fun _ _ _ _ _ => False
  | n + 1 => fun v0 v1 v2 I L => (∀ b1 : Nat, jr Z v0 8 = some b1 → (((2 : Int32) ≤ v2 → Q v1 I L) ∧ (¬ ((2 : Int32) ≤ v2) → (∀ b3 : Nat, jr Z v0 8 = some b3 → (vp_in v2 2 ∧ (∀ b5 : Nat, jr Z b3 v2.toNatClampNeg = some b5 → (∀ I6 : jI, I6 = jpI I b5 8 (0 : Int32) → (∀ x7 : Int32, x7 = v2 + 1 → (f_X11_stairs_L76 Z Q n) v0 v1 x7 I6 L))))))))
set_option maxHeartbeats 4000000 in
set_option maxRecDepth 100000 in
theorem m_X11_stairs_L76 {G : jG} {Z : jZ} {Q : Int32 → jI → jL → Prop} (E : jE G cX11_stairs RX11 w_X11_stairs 4 (some .int) { frames := 6, cells := 0, slots := 0, locals := 140 } (rtI Z Q)) (hZ : SH Z)  : ∀ (n : Nat) (v0 : Nat) (v1 : Int32) (v2 : Int32) (I : jI) (L : jL), jk Z v0 11 → f_X11_stairs_L76  Z Q n v0 v1 v2 I L → jJ G 4 76 [(0, .ref v0), (1, .int v1), (2, .int v2)] [] Z I L 0 0 := by
  intro n
  induction n with
  | zero => intro v0 v1 v2 I L _ h; exact h.elim
  | succ n ih =>
    intro v0 v1 v2 I L kv0 h
    have h : (∀ b1 : Nat, jr Z v0 8 = some b1 → (((2 : Int32) ≤ v2 → Q v1 I L) ∧ (¬ ((2 : Int32) ≤ v2) → (∀ b3 : Nat, jr Z v0 8 = some b3 → (vp_in v2 2 ∧ (∀ b5 : Nat, jr Z b3 v2.toNatClampNeg = some b5 → (∀ I6 : jI, I6 = jpI I b5 8 (0 : Int32) → (∀ x7 : Int32, x7 = v2 + 1 → (f_X11_stairs_L76 Z Q n) v0 v1 x7 I6 L)))))))) := h
    obtain ⟨K76, eK76⟩ : ∃ K : Nat → Int32 → Int32 → jI → jL → Prop, K = f_X11_stairs_L76  Z Q n := ⟨_, rfl⟩
    have hK76 := ih
    clear eK76 K76
    generalize f_X11_stairs_L76  Z Q n = K76 at hK76 h
    refine j_iload_n E dX11_stairs_76 2 rfl ?_
    refine j_aload_n E dX11_stairs_77 0 rfl ?_
    obtain ⟨b1, eb1, kb1, lb1⟩ := sh_f hZ kv0 (j := 8) (k := 17) (m := 2) rfl
    have h := h b1 eb1
    refine j_getr E 11 8 rfl rfl (by decide) (by decide) (iw iT_11) rfl rfl (tw W_417) kv0 eb1 dX11_stairs_78 ?_
    refine j_alen17 E (v := 2) kb1 (by rw [lb1]; rfl) dX11_stairs_81 ?_
    refine j_icmp_ge E 101 dX11_stairs_82 (by decide) (fun c2 => ?_) (fun c2 => ?_)
    · have h := h.1 c2
      refine j_iload_n E dX11_stairs_101 1 rfl ?_
      exact j_ireturn E ⟨rfl, _, rfl, h⟩ (Nat.zero_le _) (Nat.zero_le _) dX11_stairs_102
    · have h := h.2 c2
      refine j_aload_n E dX11_stairs_85 0 rfl ?_
      obtain ⟨b3, eb3, kb3, lb3⟩ := sh_f hZ kv0 (j := 8) (k := 17) (m := 2) rfl
      have h := h b3 eb3
      refine j_getr E 11 8 rfl rfl (by decide) (by decide) (iw iT_11) rfl rfl (tw W_417) kv0 eb3 dX11_stairs_86 ?_
      refine j_iload_n E dX11_stairs_89 2 rfl ?_
      obtain ⟨o4, h⟩ := h
      refine j_aald17 E kb3 (by rw [lb3]; exact o4) dX11_stairs_90 ?_
      obtain ⟨b5, eb5, kb5⟩ := sh_k hZ kb3 (by rw [lb3]; exact o4)
      have h := h b5 eb5
      refine j_rfS eb5 ?_
      refine j_iconst E (v := 0) dX11_stairs_91 (by decide) ?_
      refine j_putiN E 2 8 rfl rfl (by decide) (by decide) (iw iT_2) tyX2_ok nmX2 rfl rfl (nw_2_8_X11_124) rfl rfl rfl kb5 dX11_stairs_92 ?_
      refine j_nmI (fun I6 eI6 => ?_)
      have h := h I6 eI6
      obtain ⟨x7, ex7⟩ : ∃ y : Int32, y = v2 + 1 := ⟨_, rfl⟩
      have h := h x7 ex7
      refine j_iinc E x7 [(2, .int x7), (0, .ref v0), (1, .int v1)] dX11_stairs_95 2 rfl (by rw [ex7]; rfl) (by decide) rfl ?_
      refine j_goto E 76 dX11_stairs_98 (by decide) ?_
      refine j_sub [1, 2, 0] rfl ?_
      exact hK76 v0 v1 x7 I6 L kv0 h
set_option maxRecDepth 100000 in
def f_X11_stairs_b60 (K38 : Nat → Int32 → Int32 → jI → jL → Prop) (Z : jZ) (Q : Int32 → jI → jL → Prop) (v0 : Nat) (v1 : Int32) (v2 : Int32) (I : jI) (L : jL) : Prop := (∀ x8 : Int32, x8 = v2 + 1 → K38 v0 v1 x8 I L)
set_option maxHeartbeats 4000000 in
set_option maxRecDepth 100000 in
theorem m_X11_stairs_b60 {G : jG} {Z : jZ} {Q : Int32 → jI → jL → Prop} (E : jE G cX11_stairs RX11 w_X11_stairs 4 (some .int) { frames := 6, cells := 0, slots := 0, locals := 140 } (rtI Z Q)) (hZ : SH Z) (K38 : Nat → Int32 → Int32 → jI → jL → Prop) (hK38 : ∀ (v0 : Nat) (v1 : Int32) (v2 : Int32) (I : jI) (L : jL), jk Z v0 11 → K38 v0 v1 v2 I L → jJ G 4 38 [(0, .ref v0), (1, .int v1), (2, .int v2)] [] Z I L 0 0) (v0 : Nat) (v1 : Int32) (v2 : Int32) (I : jI) (L : jL) (kv0 : jk Z v0 11) (h : f_X11_stairs_b60 K38 Z Q v0 v1 v2 I L) : jJ G 4 60 [(0, .ref v0), (1, .int v1), (2, .int v2)] [] Z I L 0 0 := by
  obtain ⟨x8, ex8⟩ : ∃ y : Int32, y = v2 + 1 := ⟨_, rfl⟩
  have h := h x8 ex8
  refine j_iinc E x8 [(2, .int x8), (0, .ref v0), (1, .int v1)] dX11_stairs_60 2 rfl (by rw [ex8]; rfl) (by decide) rfl ?_
  refine j_goto E 38 dX11_stairs_63 (by decide) ?_
  refine j_sub [1, 2, 0] rfl ?_
  exact hK38 v0 v1 x8 I L kv0 h
set_option maxRecDepth 100000 in
def f_X11_stairs_L38  (Z : jZ) (Q : Int32 → jI → jL → Prop) : Nat → Nat → Int32 → Int32 → jI → jL → Prop
  | 0 => fun _ _ _ _ _ => False
  | n + 1 => fun v0 v1 v2 I L => (((I v0 4) ≤ v2 → (∀ b10 : Nat, jr Z v0 5 = some b10 → (f_J7_fill_53178 b10 (0 : Int32) Z I L (fun I13 L14 => (∃ m76 : Nat, f_X11_stairs_L76  Z Q m76 v0 v1 (0 : Int32) I13 L14))))) ∧ (¬ ((I v0 4) ≤ v2) → (f_X11_find v0 v2 Z I L (fun r22 I19 L20 => ((r22 = none → f_X11_stairs_b60 (f_X11_stairs_L38 Z Q n) Z Q v0 v1 v2 I19 L20) ∧ (∀ b23 : Nat, r22 = some b23 → (f_X5_startAnew b23 Z I19 L20 (fun I27 L28 => f_X11_stairs_b60 (f_X11_stairs_L38 Z Q n) Z Q v0 v1 v2 I27 L28))))))))
set_option maxHeartbeats 4000000 in
set_option maxRecDepth 100000 in
theorem m_X11_stairs_L38 {G : jG} {Z : jZ} {Q : Int32 → jI → jL → Prop} (E : jE G cX11_stairs RX11 w_X11_stairs 4 (some .int) { frames := 6, cells := 0, slots := 0, locals := 140 } (rtI Z Q)) (hZ : SH Z)  : ∀ (n : Nat) (v0 : Nat) (v1 : Int32) (v2 : Int32) (I : jI) (L : jL), jk Z v0 11 → f_X11_stairs_L38  Z Q n v0 v1 v2 I L → jJ G 4 38 [(0, .ref v0), (1, .int v1), (2, .int v2)] [] Z I L 0 0 := by
  intro n
  induction n with
  | zero => intro v0 v1 v2 I L _ h; exact h.elim
  | succ n ih =>
    intro v0 v1 v2 I L kv0 h
    have h : (((I v0 4) ≤ v2 → (∀ b10 : Nat, jr Z v0 5 = some b10 → (f_J7_fill_53178 b10 (0 : Int32) Z I L (fun I13 L14 => (∃ m76 : Nat, f_X11_stairs_L76  Z Q m76 v0 v1 (0 : Int32) I13 L14))))) ∧ (¬ ((I v0 4) ≤ v2) → (f_X11_find v0 v2 Z I L (fun r22 I19 L20 => ((r22 = none → f_X11_stairs_b60 (f_X11_stairs_L38 Z Q n) Z Q v0 v1 v2 I19 L20) ∧ (∀ b23 : Nat, r22 = some b23 → (f_X5_startAnew b23 Z I19 L20 (fun I27 L28 => f_X11_stairs_b60 (f_X11_stairs_L38 Z Q n) Z Q v0 v1 v2 I27 L28)))))))) := h
    obtain ⟨K38, eK38⟩ : ∃ K : Nat → Int32 → Int32 → jI → jL → Prop, K = f_X11_stairs_L38  Z Q n := ⟨_, rfl⟩
    have hK38 := ih
    clear eK38 K38
    generalize f_X11_stairs_L38  Z Q n = K38 at hK38 h
    refine j_iload_n E dX11_stairs_38 2 rfl ?_
    refine j_aload_n E dX11_stairs_39 0 rfl ?_
    refine j_geti E 11 4 rfl rfl (by decide) (by decide) (iw iT_11) rfl rfl (tw W_415) kv0 dX11_stairs_40 ?_
    refine j_icmp_ge E 66 dX11_stairs_43 (by decide) (fun c9 => ?_) (fun c9 => ?_)
    · have h := h.1 c9
      refine j_aload_n E dX11_stairs_66 0 rfl ?_
      obtain ⟨b10, eb10, kb10, lb10⟩ := sh_f hZ kv0 (j := 5) (k := 14) (m := 8) rfl
      have h := h b10 eb10
      refine j_getr E 11 5 rfl rfl (by decide) (by decide) (iw iT_11) rfl rfl (tw W_418) kv0 eb10 dX11_stairs_67 ?_
      refine j_iconst E (v := 0) dX11_stairs_70 (by decide) ?_
      refine j_callS E [.ref b10, .int (0 : Int32)] [] (c_J7_fill_53178 (gL G) (gD G) (gY G) b10 (0 : Int32) Z I L _ hZ kb10 h) (gwS W_419 W_10 W_8 W_7) rfl fy_J7_fill_53178 ⟨by decide, by decide⟩ rfl rfl (Nat.le_of_ble_eq_true rfl) ⟨Nat.zero_le _, Nat.zero_le _⟩ dX11_stairs_71 (fun v11 Z12 I13 L14 q15 => ?_)
      obtain ⟨rfl, rfl, h⟩ := q15
      show jJ G 4 74 [(0, .ref v0), (1, .int v1), (2, .int v2)] [] Z I13 L14 0 0
      refine j_iconst E (v := 0) dX11_stairs_74 (by decide) ?_
      refine j_istore_n E 2 [(2, .int (0 : Int32)), (0, .ref v0), (1, .int v1)] dX11_stairs_75 rfl (by decide) rfl ?_
      obtain ⟨n16, h⟩ := h
      refine j_sub [1, 2, 0] rfl ?_
      exact m_X11_stairs_L76 E hZ  n16 v0 v1 (0 : Int32) I13 L14 kv0 h
    · have h := h.2 c9
      refine j_aload_n E dX11_stairs_46 0 rfl ?_
      refine j_iload_n E dX11_stairs_47 2 rfl ?_
      refine j_callV E [.int v2] [] (c_X11_find (gL G) (gD G) (gY G) v0 v2 Z I L _ hZ kv0 h) (gwV W_421 W_422 W_423 W_28 W_420) rfl ⟨rfl, fy_X11_find⟩ ⟨by decide, by decide⟩ (c := 11) rfl (by decide) kv0 rfl rfl (Nat.le_of_ble_eq_true rfl) ⟨Nat.zero_le _, Nat.zero_le _⟩ dX11_stairs_48 (fun v17 Z18 I19 L20 q21 => ?_)
      obtain ⟨rfl, r22, rfl, zr22, h⟩ := q21
      show jJ G 4 51 [(0, .ref v0), (1, .int v1), (2, .int v2)] (va_rf r22 :: []) Z I19 L20 0 0
      rcases c24 : r22 with _ | b23
      · have h := h.1 c24
        refine j_rfN rfl ?_
        refine j_astore_nN E 3 [(3, .null), (0, .ref v0), (1, .int v1), (2, .int v2)] dX11_stairs_51 rfl (by decide) rfl ?_
        refine j_aload_nN E dX11_stairs_52 0 rfl ?_
        refine j_ifnullN E 60 dX11_stairs_53 (by decide) ?_
        refine j_sub [1, 2, 3] rfl ?_
        exact m_X11_stairs_b60 E hZ K38 hK38 v0 v1 v2 I19 L20 kv0 h
      · have h := h.2 b23 c24
        have kb23 := zr22 b23 c24
        refine j_rfS rfl ?_
        refine j_astore_n E 3 [(3, .ref b23), (0, .ref v0), (1, .int v1), (2, .int v2)] dX11_stairs_51 rfl (by decide) rfl ?_
        refine j_aload_n E dX11_stairs_52 0 rfl ?_
        refine j_ifnull E dX11_stairs_53 ?_
        refine j_aload_n E dX11_stairs_56 0 rfl ?_
        refine j_callV E [] [] (c_X5_startAnew (gL G) (gD G) (gY G) b23 Z I19 L20 _ hZ kb23 h) (gwV W_426 W_427 W_428 W_425 W_424) rfl ⟨rfl, fy_X5_startAnew⟩ ⟨by decide, by decide⟩ (c := 5) rfl (by decide) kb23 rfl rfl (Nat.le_of_ble_eq_true rfl) ⟨Nat.zero_le _, Nat.zero_le _⟩ dX11_stairs_57 (fun v25 Z26 I27 L28 q29 => ?_)
        obtain ⟨rfl, rfl, h⟩ := q29
        show jJ G 4 60 [(3, .ref b23), (0, .ref v0), (1, .int v1), (2, .int v2)] [] Z I27 L28 0 0
        refine j_sub [1, 2, 3] rfl ?_
        exact m_X11_stairs_b60 E hZ K38 hK38 v0 v1 v2 I27 L28 kv0 h
set_option maxRecDepth 100000 in
def f_X11_stairs (v0 : Nat) (Z : jZ) (I : jI) (L : jL) (Q : Int32 → jI → jL → Prop) : Prop := (∀ b30 : Nat, jr Z v0 1 = some b30 → (∀ b31 : Nat, jr Z v0 0 = some b31 → (f_X9_read b30 b31 Z I L (fun r37 I34 L35 => (∀ b38 : Nat, jr Z v0 0 = some b38 → (f_X10_clear b38 Z I34 L35 (fun I41 L42 => ((0 ≤ r37 → (∀ b45 : Nat, jr Z v0 2 = some b45 → (∀ b46 : Nat, jr Z v0 1 = some b46 → (f_X8_build b45 b46 Z I41 L42 (fun I49 L50 => (∃ m38 : Nat, f_X11_stairs_L38  Z Q m38 v0 r37 (0 : Int32) I49 L50)))))) ∧ (¬ (0 ≤ r37) → Q r37 I41 L42)))))))))
set_option maxHeartbeats 4000000 in
set_option maxRecDepth 100000 in
theorem c_X11_stairs (l : Launch) (D : va_G) (cy : jC) (v0 : Nat) (Z : jZ) (I : jI) (L : jL) (Q : Int32 → jI → jL → Prop) (hZ : SH Z) (kv0 : jk Z v0 11) (h : f_X11_stairs v0 Z I L Q) : jCt l yX11_stairs w_X11_stairs { frames := 6, cells := 0, slots := 0, locals := 140 } D cy [.ref v0] Z I L (rtI Z Q) := by
  refine jCt_of (cc := cX11_stairs) (maxL := 4) (ret := (some .int)) (by decide +kernel) rfl (Nat.le_of_ble_eq_true rfl) ?_
  intro G eD eY eL E
  subst eD; subst eY; subst eL
  have E : jE G cX11_stairs RX11 w_X11_stairs 4 (some .int) { frames := 6, cells := 0, slots := 0, locals := 140 } (rtI Z Q) := E
  show jJ G 4 0 [(0, .ref v0)] [] Z I L 0 0
  refine j_aload_n E dX11_stairs_0 0 rfl ?_
  obtain ⟨b30, eb30, kb30⟩ := sh_o hZ kv0 (j := 1) (k := 9) rfl
  have h := h b30 eb30
  refine j_getr E 11 1 rfl rfl (by decide) (by decide) (iw iT_11) rfl rfl (tw W_429) kv0 eb30 dX11_stairs_1 ?_
  refine j_aload_n E dX11_stairs_4 0 rfl ?_
  obtain ⟨b31, eb31, kb31⟩ := sh_o hZ kv0 (j := 0) (k := 10) rfl
  have h := h b31 eb31
  refine j_getr E 11 0 rfl rfl (by decide) (by decide) (iw iT_11) rfl rfl (tw W_406) kv0 eb31 dX11_stairs_5 ?_
  refine j_callV E [.ref b31] [] (c_X9_read (gL G) (gD G) (gY G) b30 b31 Z I L _ hZ kb30 kb31 h) (gwV W_431 W_432 W_433 W_362 W_430) rfl ⟨rfl, fy_X9_read⟩ ⟨by decide, by decide⟩ (c := 9) rfl (by decide) kb30 rfl rfl (Nat.le_of_ble_eq_true rfl) ⟨Nat.zero_le _, Nat.zero_le _⟩ dX11_stairs_8 (fun v32 Z33 I34 L35 q36 => ?_)
  obtain ⟨rfl, r37, rfl, h⟩ := q36
  show jJ G 4 11 [(0, .ref v0)] [.int r37] Z I34 L35 0 0
  refine j_istore_n E 1 [(1, .int r37), (0, .ref v0)] dX11_stairs_11 rfl (by decide) rfl ?_
  refine j_aload_n E dX11_stairs_12 1 rfl ?_
  obtain ⟨b38, eb38, kb38⟩ := sh_o hZ kv0 (j := 0) (k := 10) rfl
  have h := h b38 eb38
  refine j_getr E 11 0 rfl rfl (by decide) (by decide) (iw iT_11) rfl rfl (tw W_406) kv0 eb38 dX11_stairs_13 ?_
  refine j_callV E [] [] (c_X10_clear (gL G) (gD G) (gY G) b38 Z I34 L35 _ hZ kb38 h) (gwV W_435 W_436 W_437 W_183 W_434) rfl ⟨rfl, fy_X10_clear⟩ ⟨by decide, by decide⟩ (c := 10) rfl (by decide) kb38 rfl rfl (Nat.le_of_ble_eq_true rfl) ⟨Nat.zero_le _, Nat.zero_le _⟩ dX11_stairs_16 (fun v39 Z40 I41 L42 q43 => ?_)
  obtain ⟨rfl, rfl, h⟩ := q43
  show jJ G 4 19 [(1, .int r37), (0, .ref v0)] [] Z I41 L42 0 0
  refine j_iload_n E dX11_stairs_19 0 rfl ?_
  refine j_if_ge E 25 dX11_stairs_20 (by decide) (fun c44 => ?_) (fun c44 => ?_)
  · have h := h.1 c44
    refine j_aload_n E dX11_stairs_25 1 rfl ?_
    obtain ⟨b45, eb45, kb45⟩ := sh_o hZ kv0 (j := 2) (k := 8) rfl
    have h := h b45 eb45
    refine j_getr E 11 2 rfl rfl (by decide) (by decide) (iw iT_11) rfl rfl (tw W_438) kv0 eb45 dX11_stairs_26 ?_
    refine j_aload_n E dX11_stairs_29 1 rfl ?_
    obtain ⟨b46, eb46, kb46⟩ := sh_o hZ kv0 (j := 1) (k := 9) rfl
    have h := h b46 eb46
    refine j_getr E 11 1 rfl rfl (by decide) (by decide) (iw iT_11) rfl rfl (tw W_429) kv0 eb46 dX11_stairs_30 ?_
    refine j_callV E [.ref b46] [] (c_X8_build (gL G) (gD G) (gY G) b45 b46 Z I41 L42 _ hZ kb45 kb46 h) (gwV W_440 W_441 W_442 W_248 W_439) rfl ⟨rfl, fy_X8_build⟩ ⟨by decide, by decide⟩ (c := 8) rfl (by decide) kb45 rfl rfl (Nat.le_of_ble_eq_true rfl) ⟨Nat.zero_le _, Nat.zero_le _⟩ dX11_stairs_33 (fun v47 Z48 I49 L50 q51 => ?_)
    obtain ⟨rfl, rfl, h⟩ := q51
    show jJ G 4 36 [(1, .int r37), (0, .ref v0)] [] Z I49 L50 0 0
    refine j_iconst E (v := 0) dX11_stairs_36 (by decide) ?_
    refine j_istore_n E 2 [(2, .int (0 : Int32)), (1, .int r37), (0, .ref v0)] dX11_stairs_37 rfl (by decide) rfl ?_
    obtain ⟨n52, h⟩ := h
    refine j_sub [2, 1, 0] rfl ?_
    exact m_X11_stairs_L38 E hZ  n52 v0 r37 (0 : Int32) I49 L50 kv0 h
  · have h := h.2 c44
    refine j_iload_n E dX11_stairs_23 0 rfl ?_
    exact j_ireturn E ⟨rfl, _, rfl, h⟩ (Nat.zero_le _) (Nat.zero_le _) dX11_stairs_24
set_option maxRecDepth 100000 in
def f_X11_law_b45  (Z : jZ) (Q : Int32 → jI → jL → Prop) (v0 : Nat) (v2 : Int32) (I : jI) (L : jL) : Prop := (∀ b1 : Nat, jr Z v0 0 = some b1 → (f_X10_clear b1 Z I L (fun I4 L5 => Q v2 I4 L5)))
set_option maxHeartbeats 4000000 in
set_option maxRecDepth 100000 in
theorem m_X11_law_b45 {G : jG} {Z : jZ} {Q : Int32 → jI → jL → Prop} (E : jE G cX11_law RX11 w_X11_law 3 (some .int) { frames := 2, cells := 0, slots := 0, locals := 70 } (rtI Z Q)) (hZ : SH Z)  (v0 : Nat) (v2 : Int32) (I : jI) (L : jL) (kv0 : jk Z v0 11) (h : f_X11_law_b45  Z Q v0 v2 I L) : jJ G 3 45 [(0, .ref v0), (2, .int v2)] [] Z I L 0 0 := by
  refine j_aload_n E dX11_law_45 0 rfl ?_
  obtain ⟨b1, eb1, kb1⟩ := sh_o hZ kv0 (j := 0) (k := 10) rfl
  have h := h b1 eb1
  refine j_getr E 11 0 rfl rfl (by decide) (by decide) (iw iT_11) rfl rfl (tw W_406) kv0 eb1 dX11_law_46 ?_
  refine j_callV E [] [] (c_X10_clear (gL G) (gD G) (gY G) b1 Z I L _ hZ kb1 h) (gwV W_435 W_436 W_437 W_183 W_434) rfl ⟨rfl, fy_X10_clear⟩ ⟨by decide, by decide⟩ (c := 10) rfl (by decide) kb1 rfl rfl (Nat.le_of_ble_eq_true rfl) ⟨Nat.zero_le _, Nat.zero_le _⟩ dX11_law_49 (fun v2 Z3 I4 L5 q6 => ?_)
  obtain ⟨rfl, rfl, h⟩ := q6
  show jJ G 3 52 [(0, .ref v0), (2, .int v2)] [] Z I4 L5 0 0
  refine j_iload_n E dX11_law_52 1 rfl ?_
  exact j_ireturn E ⟨rfl, _, rfl, h⟩ (Nat.zero_le _) (Nat.zero_le _) dX11_law_53
set_option maxRecDepth 100000 in
def f_X11_law (v0 : Nat) (v1 : Int32) (Z : jZ) (I : jI) (L : jL) (Q : Int32 → jI → jL → Prop) : Prop := ((¬ v1 = 0 → ((¬ v1 = (1 : Int32) → f_X11_law_b45  Z Q v0 (-100 : Int32) I L) ∧ (v1 = (1 : Int32) → (∀ b9 : Nat, jr Z v0 2 = some b9 → (∀ b10 : Nat, jr Z b9 7 = some b10 → (∀ b11 : Nat, jr Z v0 0 = some b11 → (f_X3_read b10 b11 Z I L (fun r17 I14 L15 => f_X11_law_b45  Z Q v0 r17 I14 L15)))))))) ∧ (v1 = 0 → (∀ b18 : Nat, jr Z v0 2 = some b18 → (∀ b19 : Nat, jr Z b18 6 = some b19 → (∀ b20 : Nat, jr Z v0 0 = some b20 → (f_X3_read b19 b20 Z I L (fun r26 I23 L24 => f_X11_law_b45  Z Q v0 r26 I23 L24)))))))
set_option maxHeartbeats 4000000 in
set_option maxRecDepth 100000 in
theorem c_X11_law (l : Launch) (D : va_G) (cy : jC) (v0 : Nat) (v1 : Int32) (Z : jZ) (I : jI) (L : jL) (Q : Int32 → jI → jL → Prop) (hZ : SH Z) (kv0 : jk Z v0 11) (h : f_X11_law v0 v1 Z I L Q) : jCt l yX11_law w_X11_law { frames := 2, cells := 0, slots := 0, locals := 70 } D cy [.ref v0, .int v1] Z I L (rtI Z Q) := by
  refine jCt_of (cc := cX11_law) (maxL := 3) (ret := (some .int)) (by decide +kernel) rfl (Nat.le_of_ble_eq_true rfl) ?_
  intro G eD eY eL E
  subst eD; subst eY; subst eL
  have E : jE G cX11_law RX11 w_X11_law 3 (some .int) { frames := 2, cells := 0, slots := 0, locals := 70 } (rtI Z Q) := E
  show jJ G 3 0 [(0, .ref v0), (1, .int v1)] [] Z I L 0 0
  refine j_bipush E (v := -100) dX11_law_0 (by decide) ?_
  refine j_istore_n E 2 [(2, .int (-100 : Int32)), (0, .ref v0), (1, .int v1)] dX11_law_2 rfl (by decide) rfl ?_
  refine j_iload_n E dX11_law_3 2 rfl ?_
  refine j_if_ne E 25 dX11_law_4 (by decide) (fun c7 => ?_) (fun c7 => ?_)
  · have h := h.1 c7
    refine j_iload_n E dX11_law_25 2 rfl ?_
    refine j_iconst E (v := 1) dX11_law_26 (by decide) ?_
    refine j_icmp_ne E 45 dX11_law_27 (by decide) (fun c8 => ?_) (fun c8 => ?_)
    · have h := h.1 c8
      refine j_sub [1, 0] rfl ?_
      exact m_X11_law_b45 E hZ  v0 (-100 : Int32) I L kv0 h
    · have h := h.2 c8
      refine j_aload_n E dX11_law_30 1 rfl ?_
      obtain ⟨b9, eb9, kb9⟩ := sh_o hZ kv0 (j := 2) (k := 8) rfl
      have h := h b9 eb9
      refine j_getr E 11 2 rfl rfl (by decide) (by decide) (iw iT_11) rfl rfl (tw W_438) kv0 eb9 dX11_law_31 ?_
      obtain ⟨b10, eb10, kb10⟩ := sh_o hZ kb9 (j := 7) (k := 3) rfl
      have h := h b10 eb10
      refine j_getrN E 8 7 rfl rfl (by decide) (by decide) (iw iT_8) rfl rfl (nw_8_7_X11_135) kb9 eb10 dX11_law_34 ?_
      refine j_aload_n E dX11_law_37 1 rfl ?_
      obtain ⟨b11, eb11, kb11⟩ := sh_o hZ kv0 (j := 0) (k := 10) rfl
      have h := h b11 eb11
      refine j_getr E 11 0 rfl rfl (by decide) (by decide) (iw iT_11) rfl rfl (tw W_406) kv0 eb11 dX11_law_38 ?_
      refine j_callV E [.ref b11] [] (c_X3_read (gL G) (gD G) (gY G) b10 b11 Z I L _ hZ kb10 kb11 h) (gwV W_444 W_445 W_446 W_173 W_443) rfl ⟨rfl, fy_X3_read⟩ ⟨by decide, by decide⟩ (c := 3) rfl (by decide) kb10 rfl rfl (Nat.le_of_ble_eq_true rfl) ⟨Nat.zero_le _, Nat.zero_le _⟩ dX11_law_41 (fun v12 Z13 I14 L15 q16 => ?_)
      obtain ⟨rfl, r17, rfl, h⟩ := q16
      show jJ G 3 44 [(2, .int (-100 : Int32)), (0, .ref v0), (1, .int v1)] [.int r17] Z I14 L15 0 0
      refine j_istore_n E 2 [(2, .int r17), (0, .ref v0), (1, .int v1)] dX11_law_44 rfl (by decide) rfl ?_
      refine j_sub [1, 0] rfl ?_
      exact m_X11_law_b45 E hZ  v0 r17 I14 L15 kv0 h
  · have h := h.2 c7
    refine j_aload_n E dX11_law_7 1 rfl ?_
    obtain ⟨b18, eb18, kb18⟩ := sh_o hZ kv0 (j := 2) (k := 8) rfl
    have h := h b18 eb18
    refine j_getr E 11 2 rfl rfl (by decide) (by decide) (iw iT_11) rfl rfl (tw W_438) kv0 eb18 dX11_law_8 ?_
    obtain ⟨b19, eb19, kb19⟩ := sh_o hZ kb18 (j := 6) (k := 3) rfl
    have h := h b19 eb19
    refine j_getrN E 8 6 rfl rfl (by decide) (by decide) (iw iT_8) rfl rfl (nw_8_6_X11_128) kb18 eb19 dX11_law_11 ?_
    refine j_aload_n E dX11_law_14 1 rfl ?_
    obtain ⟨b20, eb20, kb20⟩ := sh_o hZ kv0 (j := 0) (k := 10) rfl
    have h := h b20 eb20
    refine j_getr E 11 0 rfl rfl (by decide) (by decide) (iw iT_11) rfl rfl (tw W_406) kv0 eb20 dX11_law_15 ?_
    refine j_callV E [.ref b20] [] (c_X3_read (gL G) (gD G) (gY G) b19 b20 Z I L _ hZ kb19 kb20 h) (gwV W_444 W_445 W_446 W_173 W_443) rfl ⟨rfl, fy_X3_read⟩ ⟨by decide, by decide⟩ (c := 3) rfl (by decide) kb19 rfl rfl (Nat.le_of_ble_eq_true rfl) ⟨Nat.zero_le _, Nat.zero_le _⟩ dX11_law_18 (fun v21 Z22 I23 L24 q25 => ?_)
    obtain ⟨rfl, r26, rfl, h⟩ := q25
    show jJ G 3 21 [(2, .int (-100 : Int32)), (0, .ref v0), (1, .int v1)] [.int r26] Z I23 L24 0 0
    refine j_istore_n E 2 [(2, .int r26), (0, .ref v0), (1, .int v1)] dX11_law_21 rfl (by decide) rfl ?_
    refine j_goto E 45 dX11_law_22 (by decide) ?_
    refine j_sub [1, 0] rfl ?_
    exact m_X11_law_b45 E hZ  v0 r26 I23 L24 kv0 h
set_option maxRecDepth 100000 in
def f_X11_step (v0 : Nat) (v1 : Int32) (v2 : Int32) (Z : jZ) (I : jI) (L : jL) (Q : Int32 → jI → jL → Prop) (QX : jI → jL → Prop) : Prop := (∀ b1 : Nat, jr Z v0 2 = some b1 → (f_X8_has b1 v1 Z I L (fun r7 I4 L5 => ((¬ r7 = 0 → ((v2 = 0 → (∀ b10 : Nat, jr Z v0 2 = some b10 → (∀ b11 : Nat, jr Z b10 0 = some b11 → (vp_in v1 24 ∧ Q (I4 b11 v1.toNatClampNeg) I4 L5)))) ∧ (¬ v2 = 0 → ((v2 = 1 → (∀ b14 : Nat, jr Z v0 2 = some b14 → (∀ b15 : Nat, jr Z b14 1 = some b15 → (vp_in v1 24 ∧ Q (I4 b15 v1.toNatClampNeg) I4 L5)))) ∧ (¬ v2 = 1 → ((v2 = 2 → (∀ b18 : Nat, jr Z v0 2 = some b18 → (∀ b19 : Nat, jr Z b18 2 = some b19 → (vp_in v1 24 ∧ Q (I4 b19 v1.toNatClampNeg) I4 L5)))) ∧ (¬ v2 = 2 → ((v2 = 3 → (∀ b22 : Nat, jr Z v0 2 = some b22 → (∀ b23 : Nat, jr Z b22 3 = some b23 → (vp_in v1 24 ∧ Q (I4 b23 v1.toNatClampNeg) I4 L5)))) ∧ (¬ v2 = 3 → ((v2 = 4 → (∀ b26 : Nat, jr Z v0 2 = some b26 → (∀ b27 : Nat, jr Z b26 4 = some b27 → (f_X4_mainOf b27 v1 Z I4 L5 (fun r33 I30 L31 => Q r33 I30 L31))))) ∧ (¬ v2 = 4 → QX I4 L5))))))))))) ∧ (r7 = 0 → QX I4 L5)))))
set_option maxHeartbeats 4000000 in
set_option maxRecDepth 100000 in
theorem c_X11_step (l : Launch) (hl0 : l.stackTraces = false) (D : va_G) (cy : jC) (v0 : Nat) (v1 : Int32) (v2 : Int32) (Z : jZ) (I : jI) (L : jL) (Q : Int32 → jI → jL → Prop) (QX : jI → jL → Prop) (hZ : SH Z) (kv0 : jk Z v0 11) (h : f_X11_step v0 v1 v2 Z I L Q QX) : jCtX l yX11_step w_X11_step { frames := 6, cells := 1, slots := 6, locals := 90 } D cy [.ref v0, .int v1, .int v2] Z I L (rtI Z Q) (fun Z9 I9 L9 => Z = Z9 ∧ QX I9 L9) := by
  refine jCtX_of hl0 (cc := cX11_step) (maxL := 3) (ret := (some .int)) (by decide +kernel) rfl (Nat.le_of_ble_eq_true rfl) ?_
  intro G eD eY eL E EX
  subst eD; subst eY; subst eL
  have E : jE G cX11_step RX11 w_X11_step 3 (some .int) { frames := 6, cells := 1, slots := 6, locals := 90 } (rtI Z Q) := E
  show jJ G 3 0 [(0, .ref v0), (1, .int v1), (2, .int v2)] [] Z I L 0 0
  refine j_aload_n E dX11_step_0 0 rfl ?_
  obtain ⟨b1, eb1, kb1⟩ := sh_o hZ kv0 (j := 2) (k := 8) rfl
  have h := h b1 eb1
  refine j_getr E 11 2 rfl rfl (by decide) (by decide) (iw iT_11) rfl rfl (tw W_438) kv0 eb1 dX11_step_1 ?_
  refine j_iload_n E dX11_step_4 1 rfl ?_
  refine j_callV E [.int v1] [] (c_X8_has (gL G) (gD G) (gY G) b1 v1 Z I L _ hZ kb1 h) (gwV W_447 W_250 W_251 W_248 W_247) rfl ⟨rfl, fy_X8_has⟩ ⟨by decide, by decide⟩ (c := 8) rfl (by decide) kb1 rfl rfl (Nat.le_of_ble_eq_true rfl) ⟨Nat.zero_le _, Nat.zero_le _⟩ dX11_step_5 (fun v2 Z3 I4 L5 q6 => ?_)
  obtain ⟨rfl, r7, rfl, zr7, h⟩ := q6
  show jJ G 3 8 [(0, .ref v0), (1, .int v1), (2, .int v2)] [.int r7] Z I4 L5 0 0
  refine j_if_ne E 21 dX11_step_8 (by decide) (fun c8 => ?_) (fun c8 => ?_)
  · have h := h.1 c8
    refine j_iload_n E dX11_step_21 2 rfl ?_
    by_cases c9 : v2 = 0
    · have h := h.1 c9
      refine j_tableIn E (34) 56 dX11_step_22 (by rw [c9]; decide) (by rw [c9]; decide) (by rw [c9]; rfl) (by decide) ?_
      refine j_aload_n E dX11_step_56 0 rfl ?_
      obtain ⟨b10, eb10, kb10⟩ := sh_o hZ kv0 (j := 2) (k := 8) rfl
      have h := h b10 eb10
      refine j_getr E 11 2 rfl rfl (by decide) (by decide) (iw iT_11) rfl rfl (tw W_438) kv0 eb10 dX11_step_57 ?_
      obtain ⟨b11, eb11, kb11, lb11⟩ := sh_f hZ kb10 (j := 0) (k := 14) (m := 24) rfl
      have h := h b11 eb11
      refine j_getrN E 8 0 rfl rfl (by decide) (by decide) (iw iT_8) rfl rfl (nw_8_0_X11_148) kb10 eb11 dX11_step_60 ?_
      refine j_iload_n E dX11_step_63 1 rfl ?_
      obtain ⟨o12, h⟩ := h
      refine j_iald E kb11 (by rw [lb11]; exact o12) dX11_step_64 ?_
      exact j_ireturn E ⟨rfl, _, rfl, h⟩ (Nat.zero_le _) (Nat.zero_le _) dX11_step_65
    · have h := h.2 c9
      by_cases c13 : v2 = 1
      · have h := h.1 c13
        refine j_tableIn E (44) 66 dX11_step_22 (by rw [c13]; decide) (by rw [c13]; decide) (by rw [c13]; rfl) (by decide) ?_
        refine j_aload_n E dX11_step_66 0 rfl ?_
        obtain ⟨b14, eb14, kb14⟩ := sh_o hZ kv0 (j := 2) (k := 8) rfl
        have h := h b14 eb14
        refine j_getr E 11 2 rfl rfl (by decide) (by decide) (iw iT_11) rfl rfl (tw W_438) kv0 eb14 dX11_step_67 ?_
        obtain ⟨b15, eb15, kb15, lb15⟩ := sh_f hZ kb14 (j := 1) (k := 14) (m := 24) rfl
        have h := h b15 eb15
        refine j_getrN E 8 1 rfl rfl (by decide) (by decide) (iw iT_8) rfl rfl (nw_8_1_X11_151) kb14 eb15 dX11_step_70 ?_
        refine j_iload_n E dX11_step_73 1 rfl ?_
        obtain ⟨o16, h⟩ := h
        refine j_iald E kb15 (by rw [lb15]; exact o16) dX11_step_74 ?_
        exact j_ireturn E ⟨rfl, _, rfl, h⟩ (Nat.zero_le _) (Nat.zero_le _) dX11_step_75
      · have h := h.2 c13
        by_cases c17 : v2 = 2
        · have h := h.1 c17
          refine j_tableIn E (54) 76 dX11_step_22 (by rw [c17]; decide) (by rw [c17]; decide) (by rw [c17]; rfl) (by decide) ?_
          refine j_aload_n E dX11_step_76 0 rfl ?_
          obtain ⟨b18, eb18, kb18⟩ := sh_o hZ kv0 (j := 2) (k := 8) rfl
          have h := h b18 eb18
          refine j_getr E 11 2 rfl rfl (by decide) (by decide) (iw iT_11) rfl rfl (tw W_438) kv0 eb18 dX11_step_77 ?_
          obtain ⟨b19, eb19, kb19, lb19⟩ := sh_f hZ kb18 (j := 2) (k := 14) (m := 24) rfl
          have h := h b19 eb19
          refine j_getrN E 8 2 rfl rfl (by decide) (by decide) (iw iT_8) rfl rfl (nw_8_2_X11_154) kb18 eb19 dX11_step_80 ?_
          refine j_iload_n E dX11_step_83 1 rfl ?_
          obtain ⟨o20, h⟩ := h
          refine j_iald E kb19 (by rw [lb19]; exact o20) dX11_step_84 ?_
          exact j_ireturn E ⟨rfl, _, rfl, h⟩ (Nat.zero_le _) (Nat.zero_le _) dX11_step_85
        · have h := h.2 c17
          by_cases c21 : v2 = 3
          · have h := h.1 c21
            refine j_tableIn E (64) 86 dX11_step_22 (by rw [c21]; decide) (by rw [c21]; decide) (by rw [c21]; rfl) (by decide) ?_
            refine j_aload_n E dX11_step_86 0 rfl ?_
            obtain ⟨b22, eb22, kb22⟩ := sh_o hZ kv0 (j := 2) (k := 8) rfl
            have h := h b22 eb22
            refine j_getr E 11 2 rfl rfl (by decide) (by decide) (iw iT_11) rfl rfl (tw W_438) kv0 eb22 dX11_step_87 ?_
            obtain ⟨b23, eb23, kb23, lb23⟩ := sh_f hZ kb22 (j := 3) (k := 14) (m := 24) rfl
            have h := h b23 eb23
            refine j_getrN E 8 3 rfl rfl (by decide) (by decide) (iw iT_8) rfl rfl (nw_8_3_X11_157) kb22 eb23 dX11_step_90 ?_
            refine j_iload_n E dX11_step_93 1 rfl ?_
            obtain ⟨o24, h⟩ := h
            refine j_iald E kb23 (by rw [lb23]; exact o24) dX11_step_94 ?_
            exact j_ireturn E ⟨rfl, _, rfl, h⟩ (Nat.zero_le _) (Nat.zero_le _) dX11_step_95
          · have h := h.2 c21
            by_cases c25 : v2 = 4
            · have h := h.1 c25
              refine j_tableIn E (74) 96 dX11_step_22 (by rw [c25]; decide) (by rw [c25]; decide) (by rw [c25]; rfl) (by decide) ?_
              refine j_aload_n E dX11_step_96 0 rfl ?_
              obtain ⟨b26, eb26, kb26⟩ := sh_o hZ kv0 (j := 2) (k := 8) rfl
              have h := h b26 eb26
              refine j_getr E 11 2 rfl rfl (by decide) (by decide) (iw iT_11) rfl rfl (tw W_438) kv0 eb26 dX11_step_97 ?_
              obtain ⟨b27, eb27, kb27⟩ := sh_o hZ kb26 (j := 4) (k := 4) rfl
              have h := h b27 eb27
              refine j_getrN E 8 4 rfl rfl (by decide) (by decide) (iw iT_8) rfl rfl (nw_8_4_X11_160) kb26 eb27 dX11_step_100 ?_
              refine j_iload_n E dX11_step_103 1 rfl ?_
              refine j_callV E [.int v1] [] (c_X4_mainOf (gL G) (gD G) (gY G) b27 v1 Z I4 L5 _ hZ kb27 h) (gwV W_448 W_259 W_260 W_154 W_257) rfl ⟨rfl, fy_X4_mainOf⟩ ⟨by decide, by decide⟩ (c := 4) rfl (by decide) kb27 rfl rfl (Nat.le_of_ble_eq_true rfl) ⟨Nat.zero_le _, Nat.zero_le _⟩ dX11_step_104 (fun v28 Z29 I30 L31 q32 => ?_)
              obtain ⟨rfl, r33, rfl, h⟩ := q32
              show jJ G 3 107 [(0, .ref v0), (1, .int v1), (2, .int v2)] [.int r33] Z I30 L31 0 0
              exact j_ireturn E ⟨rfl, _, rfl, h⟩ (Nat.zero_le _) (Nat.zero_le _) dX11_step_107
            · have h := h.2 c25
              refine j_tableOut E 108 dX11_step_22 (by have tc9 := lv_neT (k := 0) (a := 0) c9 rfl; have tc13 := lv_neT (k := 1) (a := 1) c13 rfl; have tc17 := lv_neT (k := 2) (a := 2) c17 rfl; have tc21 := lv_neT (k := 3) (a := 3) c21 rfl; have tc25 := lv_neT (k := 4) (a := 4) c25 rfl; omega) (by decide) ?_
              exact j_throw E EX (w := 6) (is := 170) (text := "nothing such of a step") (by decide) W_449 W_450 ⟨by decide, by decide⟩ rfl (by decide) (by decide) ⟨rfl, h⟩ dX11_step_108 dX11_step_111 (Or.inl ⟨dX11_step_112, rfl⟩) dX11_step_114 dX11_step_117
  · have h := h.2 c8
    exact j_throw E EX (w := 6) (is := 143) (text := "no such step") (by decide) W_449 W_450 ⟨by decide, by decide⟩ rfl (by decide) (by decide) ⟨rfl, h⟩ dX11_step_11 dX11_step_14 (Or.inl ⟨dX11_step_15, rfl⟩) dX11_step_17 dX11_step_20
set_option maxRecDepth 100000 in
def f_X11_set_b54  (Z : jZ) (Q : Int32 → jI → jL → Prop) (v0 : Nat) (v1 : Int32) (v2 : Int32) (v3 : Int32) (v4 : Int32) (I : jI) (L : jL) : Prop := ((¬ v2 = (1 : Int32) → Q v4 I L) ∧ (v2 = (1 : Int32) → (((9 : Int32) < v3 → Q v4 I L) ∧ (¬ ((9 : Int32) < v3) → (∀ b3 : Nat, jr Z v0 2 = some b3 → (∀ b4 : Nat, jr Z b3 1 = some b4 → (vp_in v1 24 ∧ (∀ x6 : Int32, x6 = (I b4 v1.toNatClampNeg) → (∀ b7 : Nat, jr Z v0 2 = some b7 → (∀ b8 : Nat, jr Z b7 1 = some b8 → (vp_in v1 24 ∧ (∀ I10 : jI, I10 = jpI I b8 v1.toNatClampNeg v3 → Q x6 I10 L))))))))))))
set_option maxHeartbeats 4000000 in
set_option maxRecDepth 100000 in
theorem m_X11_set_b54 {G : jG} {Z : jZ} {Q : Int32 → jI → jL → Prop} (E : jE G cX11_set RX11 w_X11_set 5 (some .int) { frames := 1, cells := 0, slots := 0, locals := 21 } (rtI Z Q)) (hZ : SH Z)  (v0 : Nat) (v1 : Int32) (v2 : Int32) (v3 : Int32) (v4 : Int32) (I : jI) (L : jL) (kv0 : jk Z v0 11) (h : f_X11_set_b54  Z Q v0 v1 v2 v3 v4 I L) : jJ G 5 54 [(0, .ref v0), (1, .int v1), (2, .int v2), (3, .int v3), (4, .int v4)] [] Z I L 0 0 := by
  refine j_iload_n E dX11_set_54 2 rfl ?_
  refine j_iconst E (v := 1) dX11_set_55 (by decide) ?_
  refine j_icmp_ne E 86 dX11_set_56 (by decide) (fun c1 => ?_) (fun c1 => ?_)
  · have h := h.1 c1
    refine j_iload E dX11_set_86 4 rfl ?_
    exact j_ireturn E ⟨rfl, _, rfl, h⟩ (Nat.zero_le _) (Nat.zero_le _) dX11_set_88
  · have h := h.2 c1
    refine j_iload_n E dX11_set_59 3 rfl ?_
    refine j_bipush E (v := 9) dX11_set_60 (by decide) ?_
    refine j_icmp_gt E 86 dX11_set_62 (by decide) (fun c2 => ?_) (fun c2 => ?_)
    · have h := h.1 c2
      refine j_iload E dX11_set_86 4 rfl ?_
      exact j_ireturn E ⟨rfl, _, rfl, h⟩ (Nat.zero_le _) (Nat.zero_le _) dX11_set_88
    · have h := h.2 c2
      refine j_aload_n E dX11_set_65 0 rfl ?_
      obtain ⟨b3, eb3, kb3⟩ := sh_o hZ kv0 (j := 2) (k := 8) rfl
      have h := h b3 eb3
      refine j_getr E 11 2 rfl rfl (by decide) (by decide) (iw iT_11) rfl rfl (tw W_438) kv0 eb3 dX11_set_66 ?_
      obtain ⟨b4, eb4, kb4, lb4⟩ := sh_f hZ kb3 (j := 1) (k := 14) (m := 24) rfl
      have h := h b4 eb4
      refine j_getrN E 8 1 rfl rfl (by decide) (by decide) (iw iT_8) rfl rfl (nw_8_1_X11_151) kb3 eb4 dX11_set_69 ?_
      refine j_iload_n E dX11_set_72 1 rfl ?_
      obtain ⟨o5, h⟩ := h
      refine j_iald E kb4 (by rw [lb4]; exact o5) dX11_set_73 ?_
      refine j_topi (fun x6 ex6 => ?_)
      have h := h x6 ex6
      refine j_istore E 4 [(4, .int x6), (0, .ref v0), (1, .int v1), (2, .int v2), (3, .int v3)] dX11_set_74 (by decide) rfl ?_
      refine j_aload_n E dX11_set_76 1 rfl ?_
      obtain ⟨b7, eb7, kb7⟩ := sh_o hZ kv0 (j := 2) (k := 8) rfl
      have h := h b7 eb7
      refine j_getr E 11 2 rfl rfl (by decide) (by decide) (iw iT_11) rfl rfl (tw W_438) kv0 eb7 dX11_set_77 ?_
      obtain ⟨b8, eb8, kb8, lb8⟩ := sh_f hZ kb7 (j := 1) (k := 14) (m := 24) rfl
      have h := h b8 eb8
      refine j_getrN E 8 1 rfl rfl (by decide) (by decide) (iw iT_8) rfl rfl (nw_8_1_X11_151) kb7 eb8 dX11_set_80 ?_
      refine j_iload_n E dX11_set_83 2 rfl ?_
      refine j_iload_n E dX11_set_84 4 rfl ?_
      obtain ⟨o9, h⟩ := h
      refine j_iast E kb8 (by rw [lb8]; exact o9) dX11_set_85 ?_
      refine j_nmI (fun I10 eI10 => ?_)
      have h := h I10 eI10
      refine j_iload E dX11_set_86 0 rfl ?_
      exact j_ireturn E ⟨rfl, _, rfl, h⟩ (Nat.zero_le _) (Nat.zero_le _) dX11_set_88
set_option maxRecDepth 100000 in
def f_X11_set (v0 : Nat) (v1 : Int32) (v2 : Int32) (v3 : Int32) (Z : jZ) (I : jI) (L : jL) (Q : Int32 → jI → jL → Prop) : Prop := (∀ b11 : Nat, jr Z v0 2 = some b11 → (f_X8_has b11 v1 Z I L (fun r17 I14 L15 => ((r17 = 0 → Q (-1 : Int32) I14 L15) ∧ (¬ (r17 = 0) → ((0 ≤ v3 → ((¬ v2 = 0 → f_X11_set_b54  Z Q v0 v1 v2 v3 (-1 : Int32) I14 L15) ∧ (v2 = 0 → (((20 : Int32) < v3 → f_X11_set_b54  Z Q v0 v1 v2 v3 (-1 : Int32) I14 L15) ∧ (¬ ((20 : Int32) < v3) → (∀ b22 : Nat, jr Z v0 2 = some b22 → (∀ b23 : Nat, jr Z b22 2 = some b23 → (vp_in v1 24 ∧ (∀ x25 : Int32, x25 = (I14 b23 v1.toNatClampNeg) → (∀ b26 : Nat, jr Z v0 2 = some b26 → (∀ b27 : Nat, jr Z b26 2 = some b27 → (vp_in v1 24 ∧ (∀ I29 : jI, I29 = jpI I14 b27 v1.toNatClampNeg v3 → Q x25 I29 L15))))))))))))) ∧ (¬ (0 ≤ v3) → Q (-1 : Int32) I14 L15)))))))
set_option maxHeartbeats 4000000 in
set_option maxRecDepth 100000 in
theorem c_X11_set (l : Launch) (D : va_G) (cy : jC) (v0 : Nat) (v1 : Int32) (v2 : Int32) (v3 : Int32) (Z : jZ) (I : jI) (L : jL) (Q : Int32 → jI → jL → Prop) (hZ : SH Z) (kv0 : jk Z v0 11) (h : f_X11_set v0 v1 v2 v3 Z I L Q) : jCt l yX11_set w_X11_set { frames := 1, cells := 0, slots := 0, locals := 21 } D cy [.ref v0, .int v1, .int v2, .int v3] Z I L (rtI Z Q) := by
  refine jCt_of (cc := cX11_set) (maxL := 5) (ret := (some .int)) (by decide +kernel) rfl (Nat.le_of_ble_eq_true rfl) ?_
  intro G eD eY eL E
  subst eD; subst eY; subst eL
  have E : jE G cX11_set RX11 w_X11_set 5 (some .int) { frames := 1, cells := 0, slots := 0, locals := 21 } (rtI Z Q) := E
  show jJ G 5 0 [(0, .ref v0), (1, .int v1), (2, .int v2), (3, .int v3)] [] Z I L 0 0
  refine j_aload_n E dX11_set_0 0 rfl ?_
  obtain ⟨b11, eb11, kb11⟩ := sh_o hZ kv0 (j := 2) (k := 8) rfl
  have h := h b11 eb11
  refine j_getr E 11 2 rfl rfl (by decide) (by decide) (iw iT_11) rfl rfl (tw W_438) kv0 eb11 dX11_set_1 ?_
  refine j_iload_n E dX11_set_4 1 rfl ?_
  refine j_callV E [.int v1] [] (c_X8_has (gL G) (gD G) (gY G) b11 v1 Z I L _ hZ kb11 h) (gwV W_447 W_250 W_251 W_248 W_247) rfl ⟨rfl, fy_X8_has⟩ ⟨by decide, by decide⟩ (c := 8) rfl (by decide) kb11 rfl rfl (Nat.le_of_ble_eq_true rfl) ⟨Nat.zero_le _, Nat.zero_le _⟩ dX11_set_5 (fun v12 Z13 I14 L15 q16 => ?_)
  obtain ⟨rfl, r17, rfl, zr17, h⟩ := q16
  show jJ G 5 8 [(0, .ref v0), (1, .int v1), (2, .int v2), (3, .int v3)] [.int r17] Z I14 L15 0 0
  refine j_if_eq E 15 dX11_set_8 (by decide) (fun c18 => ?_) (fun c18 => ?_)
  · have h := h.1 c18
    refine j_iconst E (v := -1) dX11_set_15 (by decide) ?_
    exact j_ireturn E ⟨rfl, _, rfl, h⟩ (Nat.zero_le _) (Nat.zero_le _) dX11_set_16
  · have h := h.2 c18
    refine j_iload_n E dX11_set_11 3 rfl ?_
    refine j_if_ge E 17 dX11_set_12 (by decide) (fun c19 => ?_) (fun c19 => ?_)
    · have h := h.1 c19
      refine j_iconst E (v := -1) dX11_set_17 (by decide) ?_
      refine j_istore E 4 [(4, .int (-1 : Int32)), (0, .ref v0), (1, .int v1), (2, .int v2), (3, .int v3)] dX11_set_18 (by decide) rfl ?_
      refine j_iload_n E dX11_set_20 3 rfl ?_
      refine j_if_ne E 54 dX11_set_21 (by decide) (fun c20 => ?_) (fun c20 => ?_)
      · have h := h.1 c20
        refine j_sub [1, 2, 3, 4, 0] rfl ?_
        exact m_X11_set_b54 E hZ  v0 v1 v2 v3 (-1 : Int32) I14 L15 kv0 h
      · have h := h.2 c20
        refine j_iload_n E dX11_set_24 4 rfl ?_
        refine j_bipush E (v := 20) dX11_set_25 (by decide) ?_
        refine j_icmp_gt E 54 dX11_set_27 (by decide) (fun c21 => ?_) (fun c21 => ?_)
        · have h := h.1 c21
          refine j_sub [1, 2, 3, 4, 0] rfl ?_
          exact m_X11_set_b54 E hZ  v0 v1 v2 v3 (-1 : Int32) I14 L15 kv0 h
        · have h := h.2 c21
          refine j_aload_n E dX11_set_30 1 rfl ?_
          obtain ⟨b22, eb22, kb22⟩ := sh_o hZ kv0 (j := 2) (k := 8) rfl
          have h := h b22 eb22
          refine j_getr E 11 2 rfl rfl (by decide) (by decide) (iw iT_11) rfl rfl (tw W_438) kv0 eb22 dX11_set_31 ?_
          obtain ⟨b23, eb23, kb23, lb23⟩ := sh_f hZ kb22 (j := 2) (k := 14) (m := 24) rfl
          have h := h b23 eb23
          refine j_getrN E 8 2 rfl rfl (by decide) (by decide) (iw iT_8) rfl rfl (nw_8_2_X11_154) kb22 eb23 dX11_set_34 ?_
          refine j_iload_n E dX11_set_37 2 rfl ?_
          obtain ⟨o24, h⟩ := h
          refine j_iald E kb23 (by rw [lb23]; exact o24) dX11_set_38 ?_
          refine j_topi (fun x25 ex25 => ?_)
          have h := h x25 ex25
          refine j_istore E 4 [(4, .int x25), (0, .ref v0), (1, .int v1), (2, .int v2), (3, .int v3)] dX11_set_39 (by decide) rfl ?_
          refine j_aload_n E dX11_set_41 1 rfl ?_
          obtain ⟨b26, eb26, kb26⟩ := sh_o hZ kv0 (j := 2) (k := 8) rfl
          have h := h b26 eb26
          refine j_getr E 11 2 rfl rfl (by decide) (by decide) (iw iT_11) rfl rfl (tw W_438) kv0 eb26 dX11_set_42 ?_
          obtain ⟨b27, eb27, kb27, lb27⟩ := sh_f hZ kb26 (j := 2) (k := 14) (m := 24) rfl
          have h := h b27 eb27
          refine j_getrN E 8 2 rfl rfl (by decide) (by decide) (iw iT_8) rfl rfl (nw_8_2_X11_154) kb26 eb27 dX11_set_45 ?_
          refine j_iload_n E dX11_set_48 2 rfl ?_
          refine j_iload_n E dX11_set_49 4 rfl ?_
          obtain ⟨o28, h⟩ := h
          refine j_iast E kb27 (by rw [lb27]; exact o28) dX11_set_50 ?_
          refine j_nmI (fun I29 eI29 => ?_)
          have h := h I29 eI29
          refine j_goto E 86 dX11_set_51 (by decide) ?_
          refine j_iload E dX11_set_86 0 rfl ?_
          exact j_ireturn E ⟨rfl, _, rfl, h⟩ (Nat.zero_le _) (Nat.zero_le _) dX11_set_88
    · have h := h.2 c19
      refine j_iconst E (v := -1) dX11_set_15 (by decide) ?_
      exact j_ireturn E ⟨rfl, _, rfl, h⟩ (Nat.zero_le _) (Nat.zero_le _) dX11_set_16
set_option maxRecDepth 100000 in
def f_X11_entryOf_b20  (Z : jZ) (Q : Int32 → jI → jL → Prop) (s0 : Int32) (I : jI) (L : jL) : Prop := Q (if (0 : Int32) < (if s0 < (20 : Int32) then s0 else (20 : Int32)) then (if s0 < (20 : Int32) then s0 else (20 : Int32)) else (0 : Int32)) I L
set_option maxHeartbeats 4000000 in
set_option maxRecDepth 100000 in
theorem m_X11_entryOf_b20 {G : jG} {Z : jZ} {Q : Int32 → jI → jL → Prop} (E : jE G cX11_entryOf RX11 w_X11_entryOf 3 (some .int) { frames := 1, cells := 0, slots := 0, locals := 23 } (rtI Z Q)) (hZ : SH Z)  (s0 : Int32) (I : jI) (L : jL)  (h : f_X11_entryOf_b20  Z Q s0 I L) : jJ G 3 20 [] [.int s0] Z I L 0 0 := by
  refine j_istore_n E 2 [(2, .int s0)] dX11_entryOf_20 rfl (by decide) rfl ?_
  refine j_iconst E (v := 0) dX11_entryOf_21 (by decide) ?_
  refine j_bipush E (v := 20) dX11_entryOf_22 (by decide) ?_
  refine j_iload_n E dX11_entryOf_24 0 rfl ?_
  refine j_min E (tw W_451) (tw W_118) (tw W_119) (tw W_120) (by decide) (Nat.le_of_ble_eq_true rfl) (Nat.zero_le _) (Nat.zero_le _) dX11_entryOf_25 ?_
  refine j_max E (tw W_452) (tw W_138) (tw W_119) (tw W_139) (by decide) (Nat.le_of_ble_eq_true rfl) (Nat.zero_le _) (Nat.zero_le _) dX11_entryOf_28 ?_
  exact j_ireturn E ⟨rfl, _, rfl, h⟩ (Nat.zero_le _) (Nat.zero_le _) dX11_entryOf_31
set_option maxRecDepth 100000 in
def f_X11_entryOf (v0 : Int32) (v1 : Int32) (Z : jZ) (I : jI) (L : jL) (Q : Int32 → jI → jL → Prop) : Prop := ((¬ v0 = 0 → ((¬ v0 = (1 : Int32) → f_X11_entryOf_b20  Z Q v1 I L) ∧ (v0 = (1 : Int32) → f_X11_entryOf_b20  Z Q (v1.toInt16.toInt32) I L))) ∧ (v0 = 0 → f_X11_entryOf_b20  Z Q (v1.toInt8.toInt32) I L))
set_option maxHeartbeats 4000000 in
set_option maxRecDepth 100000 in
theorem c_X11_entryOf (l : Launch) (D : va_G) (cy : jC) (v0 : Int32) (v1 : Int32) (Z : jZ) (I : jI) (L : jL) (Q : Int32 → jI → jL → Prop) (hZ : SH Z)  (h : f_X11_entryOf v0 v1 Z I L Q) : jCt l yX11_entryOf w_X11_entryOf { frames := 1, cells := 0, slots := 0, locals := 23 } D cy [.int v0, .int v1] Z I L (rtI Z Q) := by
  refine jCt_of (cc := cX11_entryOf) (maxL := 3) (ret := (some .int)) (by decide +kernel) rfl (Nat.le_of_ble_eq_true rfl) ?_
  intro G eD eY eL E
  subst eD; subst eY; subst eL
  have E : jE G cX11_entryOf RX11 w_X11_entryOf 3 (some .int) { frames := 1, cells := 0, slots := 0, locals := 23 } (rtI Z Q) := E
  show jJ G 3 0 [(0, .int v0), (1, .int v1)] [] Z I L 0 0
  refine j_iload_n E dX11_entryOf_0 0 rfl ?_
  refine j_if_ne E 9 dX11_entryOf_1 (by decide) (fun c1 => ?_) (fun c1 => ?_)
  · have h := h.1 c1
    refine j_iload_n E dX11_entryOf_9 0 rfl ?_
    refine j_iconst E (v := 1) dX11_entryOf_10 (by decide) ?_
    refine j_icmp_ne E 19 dX11_entryOf_11 (by decide) (fun c2 => ?_) (fun c2 => ?_)
    · have h := h.1 c2
      refine j_iload_n E dX11_entryOf_19 1 rfl ?_
      refine j_sub [] rfl ?_
      exact m_X11_entryOf_b20 E hZ  v1 I L  h
    · have h := h.2 c2
      refine j_iload_n E dX11_entryOf_14 1 rfl ?_
      refine j_i2s E dX11_entryOf_15 ?_
      refine j_goto E 20 dX11_entryOf_16 (by decide) ?_
      refine j_sub [] rfl ?_
      exact m_X11_entryOf_b20 E hZ  (v1.toInt16.toInt32) I L  h
  · have h := h.2 c1
    refine j_iload_n E dX11_entryOf_4 1 rfl ?_
    refine j_i2b E dX11_entryOf_5 ?_
    refine j_goto E 20 dX11_entryOf_6 (by decide) ?_
    refine j_sub [] rfl ?_
    exact m_X11_entryOf_b20 E hZ  (v1.toInt8.toInt32) I L  h
