set_option maxRecDepth 100000 in
def f_X6_offerBy_b209 (K150 : Nat → Int64 → Int32 → jI → jL → Prop) (Z : jZ) (Q : jI → jL → Prop) (v0 : Nat) (v10 : Int64) (v12 : Int32) (I : jI) (L : jL) : Prop := (∀ x1 : Int32, x1 = v12 + 1 → K150 v0 v10 x1 I L)
set_option maxHeartbeats 4000000 in
set_option maxRecDepth 100000 in
theorem m_X6_offerBy_b209 {G : jG} {Z : jZ} {Q : jI → jL → Prop} (E : jE G cX6_offerBy RX6 w_X6_offerBy 15 none { frames := 3, cells := 0, slots := 0, locals := 78 } (rtV Z Q)) (hZ : SH Z) (K150 : Nat → Int64 → Int32 → jI → jL → Prop) (hK150 : ∀ (v0 : Nat) (v10 : Int64) (v12 : Int32) (I : jI) (L : jL), jk Z v0 6 → K150 v0 v10 v12 I L → jJ G 15 150 [(0, .ref v0), (10, .long v10), (12, .int v12)] [] Z I L 0 0) (v0 : Nat) (v10 : Int64) (v12 : Int32) (I : jI) (L : jL) (kv0 : jk Z v0 6) (h : f_X6_offerBy_b209 K150 Z Q v0 v10 v12 I L) : jJ G 15 209 [(0, .ref v0), (10, .long v10), (12, .int v12)] [] Z I L 0 0 := by
  obtain ⟨x1, ex1⟩ : ∃ y : Int32, y = v12 + 1 := ⟨_, rfl⟩
  have h := h x1 ex1
  refine j_iinc E x1 [(12, .int x1), (0, .ref v0), (10, .long v10)] dX6_offerBy_209 2 rfl (by rw [ex1]; rfl) (by decide) rfl ?_
  refine j_goto E 150 dX6_offerBy_212 (by decide) ?_
  refine j_sub [1, 2, 0] rfl ?_
  exact hK150 v0 v10 x1 I L kv0 h
set_option maxRecDepth 100000 in
def f_X6_offerBy_L150  (Z : jZ) (Q : jI → jL → Prop) : Nat → Nat → Int64 → Int32 → jI → jL → Prop
  | 0 => fun _ _ _ _ _ => False
  | n + 1 => fun v0 v10 v12 I L => (((20 : Int32) < v12 → Q I L) ∧ (¬ ((20 : Int32) < v12) → (∀ b3 : Nat, jr Z v0 13 = some b3 → (vp_in v12 21 ∧ (∀ x5 : Int64, x5 = (v10 + (((I b3 v12.toNatClampNeg).toInt64) <<< ((41 : Int32).toInt64 &&& 63))) → (∀ b6 : Nat, jr Z v0 11 = some b6 → (vp_in v12 21 ∧ ((0 ≤ (lg_cmp x5 (L b6 v12.toNatClampNeg)) → f_X6_offerBy_b209 (f_X6_offerBy_L150 Z Q n) Z Q v0 v10 v12 I L) ∧ (¬ (0 ≤ (lg_cmp x5 (L b6 v12.toNatClampNeg))) → (∀ b9 : Nat, jr Z v0 11 = some b9 → (vp_in v12 21 ∧ (∀ L11 : jL, L11 = jpL L b9 v12.toNatClampNeg x5 → (∀ b12 : Nat, jr Z v0 12 = some b12 → (∀ b13 : Nat, jr Z v0 13 = some b13 → (vp_in v12 21 ∧ (vp_in v12 21 ∧ (∀ I16 : jI, I16 = jpI I b12 v12.toNatClampNeg (I b13 v12.toNatClampNeg) → f_X6_offerBy_b209 (f_X6_offerBy_L150 Z Q n) Z Q v0 v10 v12 I16 L11)))))))))))))))))
set_option maxHeartbeats 4000000 in
set_option maxRecDepth 100000 in
theorem m_X6_offerBy_L150 {G : jG} {Z : jZ} {Q : jI → jL → Prop} (E : jE G cX6_offerBy RX6 w_X6_offerBy 15 none { frames := 3, cells := 0, slots := 0, locals := 78 } (rtV Z Q)) (hZ : SH Z)  : ∀ (n : Nat) (v0 : Nat) (v10 : Int64) (v12 : Int32) (I : jI) (L : jL), jk Z v0 6 → f_X6_offerBy_L150  Z Q n v0 v10 v12 I L → jJ G 15 150 [(0, .ref v0), (10, .long v10), (12, .int v12)] [] Z I L 0 0 := by
  intro n
  induction n with
  | zero => intro v0 v10 v12 I L _ h; exact h.elim
  | succ n ih =>
    intro v0 v10 v12 I L kv0 h
    have h : (((20 : Int32) < v12 → Q I L) ∧ (¬ ((20 : Int32) < v12) → (∀ b3 : Nat, jr Z v0 13 = some b3 → (vp_in v12 21 ∧ (∀ x5 : Int64, x5 = (v10 + (((I b3 v12.toNatClampNeg).toInt64) <<< ((41 : Int32).toInt64 &&& 63))) → (∀ b6 : Nat, jr Z v0 11 = some b6 → (vp_in v12 21 ∧ ((0 ≤ (lg_cmp x5 (L b6 v12.toNatClampNeg)) → f_X6_offerBy_b209 (f_X6_offerBy_L150 Z Q n) Z Q v0 v10 v12 I L) ∧ (¬ (0 ≤ (lg_cmp x5 (L b6 v12.toNatClampNeg))) → (∀ b9 : Nat, jr Z v0 11 = some b9 → (vp_in v12 21 ∧ (∀ L11 : jL, L11 = jpL L b9 v12.toNatClampNeg x5 → (∀ b12 : Nat, jr Z v0 12 = some b12 → (∀ b13 : Nat, jr Z v0 13 = some b13 → (vp_in v12 21 ∧ (vp_in v12 21 ∧ (∀ I16 : jI, I16 = jpI I b12 v12.toNatClampNeg (I b13 v12.toNatClampNeg) → f_X6_offerBy_b209 (f_X6_offerBy_L150 Z Q n) Z Q v0 v10 v12 I16 L11))))))))))))))))) := h
    obtain ⟨K150, eK150⟩ : ∃ K : Nat → Int64 → Int32 → jI → jL → Prop, K = f_X6_offerBy_L150  Z Q n := ⟨_, rfl⟩
    have hK150 := ih
    clear eK150 K150
    generalize f_X6_offerBy_L150  Z Q n = K150 at hK150 h
    refine j_iload E dX6_offerBy_150 2 rfl ?_
    refine j_bipush E (v := 20) dX6_offerBy_152 (by decide) ?_
    refine j_icmp_gt E 215 dX6_offerBy_154 (by decide) (fun c2 => ?_) (fun c2 => ?_)
    · have h := h.1 c2
      exact j_return E ⟨rfl, rfl, h⟩ (Nat.zero_le _) (Nat.zero_le _) dX6_offerBy_215
    · have h := h.2 c2
      refine j_lload E dX6_offerBy_157 1 rfl ?_
      refine j_aload_n E dX6_offerBy_159 0 rfl ?_
      obtain ⟨b3, eb3, kb3, lb3⟩ := sh_f hZ kv0 (j := 13) (k := 14) (m := 21) rfl
      have h := h b3 eb3
      refine j_getr E 6 13 rfl rfl (by decide) (by decide) (iw iT_6) rfl rfl (tw W_348) kv0 eb3 dX6_offerBy_160 ?_
      refine j_iload E dX6_offerBy_163 2 rfl ?_
      obtain ⟨o4, h⟩ := h
      refine j_iald E kb3 (by rw [lb3]; exact o4) dX6_offerBy_165 ?_
      refine j_i2l E dX6_offerBy_166 ?_
      refine j_bipush E (v := 41) dX6_offerBy_167 (by decide) ?_
      refine j_lshl E dX6_offerBy_169 ?_
      refine j_ladd E dX6_offerBy_170 ?_
      refine j_topl (fun x5 ex5 => ?_)
      have h := h x5 ex5
      refine j_lstore E 13 [(13, .long x5), (0, .ref v0), (10, .long v10), (12, .int v12)] dX6_offerBy_171 (by decide) rfl ?_
      refine j_lload E dX6_offerBy_173 0 rfl ?_
      refine j_aload_n E dX6_offerBy_175 1 rfl ?_
      obtain ⟨b6, eb6, kb6, lb6⟩ := sh_f hZ kv0 (j := 11) (k := 15) (m := 21) rfl
      have h := h b6 eb6
      refine j_getr E 6 11 rfl rfl (by decide) (by decide) (iw iT_6) rfl rfl (tw W_349) kv0 eb6 dX6_offerBy_176 ?_
      refine j_iload E dX6_offerBy_179 3 rfl ?_
      obtain ⟨o7, h⟩ := h
      refine j_lald E kb6 (by rw [lb6]; exact o7) dX6_offerBy_181 ?_
      refine j_lcmp E dX6_offerBy_182 ?_
      refine j_if_ge E 209 dX6_offerBy_183 (by decide) (fun c8 => ?_) (fun c8 => ?_)
      · have h := h.1 c8
        refine j_sub [1, 2, 3] rfl ?_
        exact m_X6_offerBy_b209 E hZ K150 hK150 v0 v10 v12 I L kv0 h
      · have h := h.2 c8
        refine j_aload_n E dX6_offerBy_186 1 rfl ?_
        obtain ⟨b9, eb9, kb9, lb9⟩ := sh_f hZ kv0 (j := 11) (k := 15) (m := 21) rfl
        have h := h b9 eb9
        refine j_getr E 6 11 rfl rfl (by decide) (by decide) (iw iT_6) rfl rfl (tw W_349) kv0 eb9 dX6_offerBy_187 ?_
        refine j_iload E dX6_offerBy_190 3 rfl ?_
        refine j_lload E dX6_offerBy_192 0 rfl ?_
        obtain ⟨o10, h⟩ := h
        refine j_last E kb9 (by rw [lb9]; exact o10) dX6_offerBy_194 ?_
        refine j_nmL (fun L11 eL11 => ?_)
        have h := h L11 eL11
        refine j_aload_n E dX6_offerBy_195 1 rfl ?_
        obtain ⟨b12, eb12, kb12, lb12⟩ := sh_f hZ kv0 (j := 12) (k := 14) (m := 21) rfl
        have h := h b12 eb12
        refine j_getr E 6 12 rfl rfl (by decide) (by decide) (iw iT_6) rfl rfl (tw W_350) kv0 eb12 dX6_offerBy_196 ?_
        refine j_iload E dX6_offerBy_199 3 rfl ?_
        refine j_aload_n E dX6_offerBy_201 1 rfl ?_
        obtain ⟨b13, eb13, kb13, lb13⟩ := sh_f hZ kv0 (j := 13) (k := 14) (m := 21) rfl
        have h := h b13 eb13
        refine j_getr E 6 13 rfl rfl (by decide) (by decide) (iw iT_6) rfl rfl (tw W_348) kv0 eb13 dX6_offerBy_202 ?_
        refine j_iload E dX6_offerBy_205 3 rfl ?_
        obtain ⟨o14, h⟩ := h
        refine j_iald E kb13 (by rw [lb13]; exact o14) dX6_offerBy_207 ?_
        obtain ⟨o15, h⟩ := h
        refine j_iast E kb12 (by rw [lb12]; exact o15) dX6_offerBy_208 ?_
        refine j_nmI (fun I16 eI16 => ?_)
        have h := h I16 eI16
        refine j_sub [1, 2, 3] rfl ?_
        exact m_X6_offerBy_b209 E hZ K150 hK150 v0 v10 v12 I16 L11 kv0 h
set_option maxRecDepth 100000 in
def f_X6_offerBy_b126  (Z : jZ) (Q : jI → jL → Prop) (v0 : Nat) (v3 : Int32) (v4 : Int32) (v5 : Int64) (s0 : Int32) (I : jI) (L : jL) : Prop := (f_X6_keyOf v0 v3 v4 Z I L (fun r23 I19 L20 => (∀ x24 : Int64, x24 = ((v5 + r23) - ((s0.toInt64) <<< ((41 : Int32).toInt64 &&& 63))) → (∃ m150 : Nat, f_X6_offerBy_L150  Z Q m150 v0 x24 (0 : Int32) I19 L20))))
set_option maxHeartbeats 4000000 in
set_option maxRecDepth 100000 in
theorem m_X6_offerBy_b126 {G : jG} {Z : jZ} {Q : jI → jL → Prop} (E : jE G cX6_offerBy RX6 w_X6_offerBy 15 none { frames := 3, cells := 0, slots := 0, locals := 78 } (rtV Z Q)) (hZ : SH Z)  (v0 : Nat) (v3 : Int32) (v4 : Int32) (v5 : Int64) (s0 : Int32) (I : jI) (L : jL) (kv0 : jk Z v0 6) (h : f_X6_offerBy_b126  Z Q v0 v3 v4 v5 s0 I L) : jJ G 15 126 [(0, .ref v0), (3, .int v3), (4, .int v4), (5, .long v5)] [.int s0] Z I L 0 0 := by
  refine j_istore E 9 [(9, .int s0), (0, .ref v0), (3, .int v3), (4, .int v4), (5, .long v5)] dX6_offerBy_126 (by decide) rfl ?_
  refine j_lload E dX6_offerBy_128 4 rfl ?_
  refine j_aload_n E dX6_offerBy_130 1 rfl ?_
  refine j_iload_n E dX6_offerBy_131 2 rfl ?_
  refine j_iload E dX6_offerBy_132 3 rfl ?_
  refine j_callV E [.int v3, .int v4] [.long v5] (c_X6_keyOf (gL G) (gD G) (gY G) v0 v3 v4 Z I L _ hZ kv0 h) (gwV W_51 W_52 W_53 W_33 W_50) rfl ⟨rfl, fy_X6_keyOf⟩ ⟨by decide, by decide⟩ (c := 6) rfl (by decide) kv0 rfl rfl (Nat.le_of_ble_eq_true rfl) ⟨Nat.zero_le _, Nat.zero_le _⟩ dX6_offerBy_134 (fun v17 Z18 I19 L20 q21 => ?_)
  obtain ⟨rfl, r23, rfl, h⟩ := q21
  show jJ G 15 137 [(9, .int s0), (0, .ref v0), (3, .int v3), (4, .int v4), (5, .long v5)] [.long r23, .long v5] Z I19 L20 0 0
  refine j_ladd E dX6_offerBy_137 ?_
  refine j_iload E dX6_offerBy_138 0 rfl ?_
  refine j_i2l E dX6_offerBy_140 ?_
  refine j_bipush E (v := 41) dX6_offerBy_141 (by decide) ?_
  refine j_lshl E dX6_offerBy_143 ?_
  refine j_lsub E dX6_offerBy_144 ?_
  refine j_topl (fun x24 ex24 => ?_)
  have h := h x24 ex24
  refine j_lstore E 10 [(10, .long x24), (9, .int s0), (0, .ref v0), (3, .int v3), (4, .int v4), (5, .long v5)] dX6_offerBy_145 (by decide) rfl ?_
  refine j_iconst E (v := 0) dX6_offerBy_147 (by decide) ?_
  refine j_istore E 12 [(12, .int (0 : Int32)), (10, .long x24), (9, .int s0), (0, .ref v0), (3, .int v3), (4, .int v4), (5, .long v5)] dX6_offerBy_148 (by decide) rfl ?_
  obtain ⟨n25, h⟩ := h
  refine j_sub [3, 1, 0] rfl ?_
  exact m_X6_offerBy_L150 E hZ  n25 v0 x24 (0 : Int32) I19 L20 kv0 h
set_option maxRecDepth 100000 in
def f_X6_offerBy_b69  (Z : jZ) (Q : jI → jL → Prop) (v0 : Nat) (v1 : Int32) (v2 : Int32) (v3 : Int32) (v4 : Int32) (v5 : Int64) (s0 : Int32) (I : jI) (L : jL) : Prop := (∀ b26 : Nat, jr Z v0 0 = some b26 → (∀ b27 : Nat, jr Z v0 13 = some b27 → (f_X8_pricesInto b26 b27 s0 v1 (v2 - (1 : Int32)) (v4 - (1 : Int32)) (I v0 14) Z I L (fun I30 L31 => (∀ b34 : Nat, jr Z v0 0 = some b34 → (∀ b35 : Nat, jr Z b34 2 = some b35 → (vp_in v1 24 ∧ (∀ x37 : Int32, x37 = (I30 b35 v1.toNatClampNeg) → (f_X11_isAsked x37 Z I30 L31 (fun r44 I40 L41 => ((r44 = 0 → f_X6_offerBy_b126  Z Q v0 v3 v4 v5 (0 : Int32) I40 L41) ∧ (¬ (r44 = 0) → (∀ b46 : Nat, jr Z v0 13 = some b46 → (vp_in x37 21 ∧ f_X6_offerBy_b126  Z Q v0 v3 v4 v5 (I40 b46 x37.toNatClampNeg) I40 L41))))))))))))))
set_option maxHeartbeats 4000000 in
set_option maxRecDepth 100000 in
theorem m_X6_offerBy_b69 {G : jG} {Z : jZ} {Q : jI → jL → Prop} (E : jE G cX6_offerBy RX6 w_X6_offerBy 15 none { frames := 3, cells := 0, slots := 0, locals := 78 } (rtV Z Q)) (hZ : SH Z)  (v0 : Nat) (v1 : Int32) (v2 : Int32) (v3 : Int32) (v4 : Int32) (v5 : Int64) (s0 : Int32) (I : jI) (L : jL) (kv0 : jk Z v0 6) (h : f_X6_offerBy_b69  Z Q v0 v1 v2 v3 v4 v5 s0 I L) : jJ G 15 69 [(0, .ref v0), (1, .int v1), (2, .int v2), (3, .int v3), (4, .int v4), (5, .long v5)] [.int s0] Z I L 0 0 := by
  refine j_istore E 7 [(7, .int s0), (0, .ref v0), (1, .int v1), (2, .int v2), (3, .int v3), (4, .int v4), (5, .long v5)] dX6_offerBy_69 (by decide) rfl ?_
  refine j_aload_n E dX6_offerBy_71 1 rfl ?_
  obtain ⟨b26, eb26, kb26⟩ := sh_o hZ kv0 (j := 0) (k := 8) rfl
  have h := h b26 eb26
  refine j_getr E 6 0 rfl rfl (by decide) (by decide) (iw iT_6) rfl rfl (tw W_286) kv0 eb26 dX6_offerBy_72 ?_
  refine j_aload_n E dX6_offerBy_75 1 rfl ?_
  obtain ⟨b27, eb27, kb27, lb27⟩ := sh_f hZ kv0 (j := 13) (k := 14) (m := 21) rfl
  have h := h b27 eb27
  refine j_getr E 6 13 rfl rfl (by decide) (by decide) (iw iT_6) rfl rfl (tw W_348) kv0 eb27 dX6_offerBy_76 ?_
  refine j_iload E dX6_offerBy_79 0 rfl ?_
  refine j_iload_n E dX6_offerBy_81 2 rfl ?_
  refine j_iload_n E dX6_offerBy_82 3 rfl ?_
  refine j_iconst E (v := 1) dX6_offerBy_83 (by decide) ?_
  refine j_isub E dX6_offerBy_84 ?_
  refine j_iload E dX6_offerBy_85 5 rfl ?_
  refine j_iconst E (v := 1) dX6_offerBy_87 (by decide) ?_
  refine j_isub E dX6_offerBy_88 ?_
  refine j_aload_n E dX6_offerBy_89 1 rfl ?_
  refine j_geti E 6 14 rfl rfl (by decide) (by decide) (iw iT_6) rfl rfl (tw W_287) kv0 dX6_offerBy_90 ?_
  refine j_callV E [.ref b27, .int s0, .int v1, .int (v2 - (1 : Int32)), .int (v4 - (1 : Int32)), .int (I v0 14)] [] (c_X8_pricesInto (gL G) (gD G) (gY G) b26 b27 s0 v1 (v2 - (1 : Int32)) (v4 - (1 : Int32)) (I v0 14) Z I L _ hZ kb26 kb27 h) (gwV W_352 W_353 W_354 W_254 W_351) rfl ⟨rfl, fy_X8_pricesInto⟩ ⟨by decide, by decide⟩ (c := 8) rfl (by decide) kb26 rfl rfl (Nat.le_of_ble_eq_true rfl) ⟨Nat.zero_le _, Nat.zero_le _⟩ dX6_offerBy_93 (fun v28 Z29 I30 L31 q32 => ?_)
  obtain ⟨rfl, rfl, h⟩ := q32
  show jJ G 15 96 [(7, .int s0), (0, .ref v0), (1, .int v1), (2, .int v2), (3, .int v3), (4, .int v4), (5, .long v5)] [] Z I30 L31 0 0
  refine j_aload_n E dX6_offerBy_96 1 rfl ?_
  obtain ⟨b34, eb34, kb34⟩ := sh_o hZ kv0 (j := 0) (k := 8) rfl
  have h := h b34 eb34
  refine j_getr E 6 0 rfl rfl (by decide) (by decide) (iw iT_6) rfl rfl (tw W_286) kv0 eb34 dX6_offerBy_97 ?_
  obtain ⟨b35, eb35, kb35, lb35⟩ := sh_f hZ kb34 (j := 2) (k := 14) (m := 24) rfl
  have h := h b35 eb35
  refine j_getrN E 8 2 rfl rfl (by decide) (by decide) (iw iT_8) rfl rfl (nw_8_2_X6_188) kb34 eb35 dX6_offerBy_100 ?_
  refine j_iload_n E dX6_offerBy_103 2 rfl ?_
  obtain ⟨o36, h⟩ := h
  refine j_iald E kb35 (by rw [lb35]; exact o36) dX6_offerBy_104 ?_
  refine j_topi (fun x37 ex37 => ?_)
  have h := h x37 ex37
  refine j_istore E 8 [(8, .int x37), (7, .int s0), (0, .ref v0), (1, .int v1), (2, .int v2), (3, .int v3), (4, .int v4), (5, .long v5)] dX6_offerBy_105 (by decide) rfl ?_
  refine j_iload E dX6_offerBy_107 0 rfl ?_
  refine j_callSN E [.int x37] [] (c_X11_isAsked (gL G) (gD G) (gY G) x37 Z I30 L31 _ hZ  h) (gwN W_355) rfl (nm_X11_isAsked_X6_191) (tw W_40) (tw W_356) fy_X11_isAsked ⟨by decide, by decide⟩ rfl rfl (Nat.le_of_ble_eq_true rfl) ⟨Nat.zero_le _, Nat.zero_le _⟩ dX6_offerBy_109 (fun v38 Z39 I40 L41 q42 => ?_)
  obtain ⟨rfl, r44, rfl, zr44, h⟩ := q42
  show jJ G 15 112 [(8, .int x37), (7, .int s0), (0, .ref v0), (1, .int v1), (2, .int v2), (3, .int v3), (4, .int v4), (5, .long v5)] [.int r44] Z I40 L41 0 0
  refine j_if_eq E 125 dX6_offerBy_112 (by decide) (fun c45 => ?_) (fun c45 => ?_)
  · have h := h.1 c45
    refine j_iconst E (v := 0) dX6_offerBy_125 (by decide) ?_
    refine j_sub [2, 5, 6, 7] rfl ?_
    exact m_X6_offerBy_b126 E hZ  v0 v3 v4 v5 (0 : Int32) I40 L41 kv0 h
  · have h := h.2 c45
    refine j_aload_n E dX6_offerBy_115 2 rfl ?_
    obtain ⟨b46, eb46, kb46, lb46⟩ := sh_f hZ kv0 (j := 13) (k := 14) (m := 21) rfl
    have h := h b46 eb46
    refine j_getr E 6 13 rfl rfl (by decide) (by decide) (iw iT_6) rfl rfl (tw W_348) kv0 eb46 dX6_offerBy_116 ?_
    refine j_iload E dX6_offerBy_119 0 rfl ?_
    obtain ⟨o47, h⟩ := h
    refine j_iald E kb46 (by rw [lb46]; exact o47) dX6_offerBy_121 ?_
    refine j_goto E 126 dX6_offerBy_122 (by decide) ?_
    refine j_sub [2, 5, 6, 7] rfl ?_
    exact m_X6_offerBy_b126 E hZ  v0 v3 v4 v5 (I40 b46 x37.toNatClampNeg) I40 L41 kv0 h
set_option maxRecDepth 100000 in
def f_X6_offerBy (v0 : Nat) (v1 : Int32) (v2 : Int32) (v3 : Int32) (Z : jZ) (I : jI) (L : jL) (Q : jI → jL → Prop) : Prop := (∀ x48 : Int32, x48 = (v3 - v2) → (∀ b49 : Nat, jr Z v0 9 = some b49 → (∀ b50 : Nat, jr Z v0 10 = some b50 → (∀ b51 : Nat, jr Z v0 5 = some b51 → (f_X6_moveTo v3 x48 Z I L (fun r58 I54 L55 => (vp_in r58 75 ∧ (f_X7_leastJoined b49 v2 b50 v3 ((I v0 1) - (I54 b51 r58.toNatClampNeg)) Z I54 L55 (fun r66 I62 L63 => (((lg_cmp r66 (9223372036854775807 : Int64)) = 0 → Q I62 L63) ∧ (¬ ((lg_cmp r66 (9223372036854775807 : Int64)) = 0) → (∀ b68 : Nat, jr Z v0 0 = some b68 → (f_X8_has b68 v1 Z I62 L63 (fun r75 I71 L72 => ((¬ r75 = 0 → ((¬ v3 = (v1 + (1 : Int32)) → f_X6_offerBy_b69  Z Q v0 v1 v2 v3 x48 r66 (1 : Int32) I71 L72) ∧ (v3 = (v1 + (1 : Int32)) → f_X6_offerBy_b69  Z Q v0 v1 v2 v3 x48 r66 (0 : Int32) I71 L72))) ∧ (r75 = 0 → Q I71 L72))))))))))))))))
set_option maxHeartbeats 4000000 in
set_option maxRecDepth 100000 in
theorem c_X6_offerBy (l : Launch) (D : va_G) (cy : jC) (v0 : Nat) (v1 : Int32) (v2 : Int32) (v3 : Int32) (Z : jZ) (I : jI) (L : jL) (Q : jI → jL → Prop) (hZ : SH Z) (kv0 : jk Z v0 6) (h : f_X6_offerBy v0 v1 v2 v3 Z I L Q) : jCt l yX6_offerBy w_X6_offerBy { frames := 3, cells := 0, slots := 0, locals := 78 } D cy [.ref v0, .int v1, .int v2, .int v3] Z I L (rtV Z Q) := by
  refine jCt_of (cc := cX6_offerBy) (maxL := 15) (ret := none) (by decide +kernel) rfl (Nat.le_of_ble_eq_true rfl) ?_
  intro G eD eY eL E
  subst eD; subst eY; subst eL
  have E : jE G cX6_offerBy RX6 w_X6_offerBy 15 none { frames := 3, cells := 0, slots := 0, locals := 78 } (rtV Z Q) := E
  show jJ G 15 0 [(0, .ref v0), (1, .int v1), (2, .int v2), (3, .int v3)] [] Z I L 0 0
  refine j_iload_n E dX6_offerBy_0 3 rfl ?_
  refine j_iload_n E dX6_offerBy_1 2 rfl ?_
  refine j_isub E dX6_offerBy_2 ?_
  refine j_topi (fun x48 ex48 => ?_)
  have h := h x48 ex48
  refine j_istore E 4 [(4, .int x48), (0, .ref v0), (1, .int v1), (2, .int v2), (3, .int v3)] dX6_offerBy_3 (by decide) rfl ?_
  refine j_aload_n E dX6_offerBy_5 1 rfl ?_
  obtain ⟨b49, eb49, kb49⟩ := sh_o hZ kv0 (j := 9) (k := 7) rfl
  have h := h b49 eb49
  refine j_getr E 6 9 rfl rfl (by decide) (by decide) (iw iT_6) rfl rfl (tw W_311) kv0 eb49 dX6_offerBy_6 ?_
  refine j_iload_n E dX6_offerBy_9 3 rfl ?_
  refine j_aload_n E dX6_offerBy_10 1 rfl ?_
  obtain ⟨b50, eb50, kb50⟩ := sh_o hZ kv0 (j := 10) (k := 7) rfl
  have h := h b50 eb50
  refine j_getr E 6 10 rfl rfl (by decide) (by decide) (iw iT_6) rfl rfl (tw W_330) kv0 eb50 dX6_offerBy_11 ?_
  refine j_iload_n E dX6_offerBy_14 4 rfl ?_
  refine j_aload_n E dX6_offerBy_15 1 rfl ?_
  refine j_geti E 6 1 rfl rfl (by decide) (by decide) (iw iT_6) rfl rfl (tw W_314) kv0 dX6_offerBy_16 ?_
  refine j_aload_n E dX6_offerBy_19 1 rfl ?_
  obtain ⟨b51, eb51, kb51, lb51⟩ := sh_f hZ kv0 (j := 5) (k := 14) (m := 75) rfl
  have h := h b51 eb51
  refine j_getr E 6 5 rfl rfl (by decide) (by decide) (iw iT_6) rfl rfl (tw W_37) kv0 eb51 dX6_offerBy_20 ?_
  refine j_iload_n E dX6_offerBy_23 4 rfl ?_
  refine j_iload E dX6_offerBy_24 0 rfl ?_
  refine j_callS E [.int v3, .int x48] [.ref b51, .int (I v0 1), .int v3, .ref b50, .int v2, .ref b49] (c_X6_moveTo (gL G) (gD G) (gY G) v3 x48 Z I L _ hZ  h) (gwS W_34 W_35 W_33 W_32) rfl fy_X6_moveTo ⟨by decide, by decide⟩ rfl rfl (Nat.le_of_ble_eq_true rfl) ⟨Nat.zero_le _, Nat.zero_le _⟩ dX6_offerBy_26 (fun v52 Z53 I54 L55 q56 => ?_)
  obtain ⟨rfl, r58, rfl, h⟩ := q56
  show jJ G 15 29 [(4, .int x48), (0, .ref v0), (1, .int v1), (2, .int v2), (3, .int v3)] [.int r58, .ref b51, .int (I v0 1), .int v3, .ref b50, .int v2, .ref b49] Z I54 L55 0 0
  obtain ⟨o59, h⟩ := h
  refine j_iald E kb51 (by rw [lb51]; exact o59) dX6_offerBy_29 ?_
  refine j_isub E dX6_offerBy_30 ?_
  refine j_callV E [.int v2, .ref b50, .int v3, .int ((I v0 1) - (I54 b51 r58.toNatClampNeg))] [] (c_X7_leastJoined (gL G) (gD G) (gY G) b49 v2 b50 v3 ((I v0 1) - (I54 b51 r58.toNatClampNeg)) Z I54 L55 _ hZ kb49 kb50 h) (gwV W_358 W_359 W_360 W_24 W_357) rfl ⟨rfl, fy_X7_leastJoined⟩ ⟨by decide, by decide⟩ (c := 7) rfl (by decide) kb49 rfl rfl (Nat.le_of_ble_eq_true rfl) ⟨Nat.zero_le _, Nat.zero_le _⟩ dX6_offerBy_31 (fun v60 Z61 I62 L63 q64 => ?_)
  obtain ⟨rfl, r66, rfl, h⟩ := q64
  show jJ G 15 34 [(4, .int x48), (0, .ref v0), (1, .int v1), (2, .int v2), (3, .int v3)] [.long r66] Z I62 L63 0 0
  refine j_lstore E 5 [(5, .long r66), (4, .int x48), (0, .ref v0), (1, .int v1), (2, .int v2), (3, .int v3)] dX6_offerBy_34 (by decide) rfl ?_
  refine j_lload E dX6_offerBy_36 0 rfl ?_
  refine j_ldc2 E (tw W_328) dX6_offerBy_38 ?_
  refine j_lcmp E dX6_offerBy_41 ?_
  refine j_if_eq E 56 dX6_offerBy_42 (by decide) (fun c67 => ?_) (fun c67 => ?_)
  · have h := h.1 c67
    exact j_return E ⟨rfl, rfl, h⟩ (Nat.zero_le _) (Nat.zero_le _) dX6_offerBy_56
  · have h := h.2 c67
    refine j_aload_n E dX6_offerBy_45 2 rfl ?_
    obtain ⟨b68, eb68, kb68⟩ := sh_o hZ kv0 (j := 0) (k := 8) rfl
    have h := h b68 eb68
    refine j_getr E 6 0 rfl rfl (by decide) (by decide) (iw iT_6) rfl rfl (tw W_286) kv0 eb68 dX6_offerBy_46 ?_
    refine j_iload_n E dX6_offerBy_49 3 rfl ?_
    refine j_callV E [.int v1] [] (c_X8_has (gL G) (gD G) (gY G) b68 v1 Z I62 L63 _ hZ kb68 h) (gwV W_361 W_256 W_257 W_254 W_253) rfl ⟨rfl, fy_X8_has⟩ ⟨by decide, by decide⟩ (c := 8) rfl (by decide) kb68 rfl rfl (Nat.le_of_ble_eq_true rfl) ⟨Nat.zero_le _, Nat.zero_le _⟩ dX6_offerBy_50 (fun v69 Z70 I71 L72 q73 => ?_)
    obtain ⟨rfl, r75, rfl, zr75, h⟩ := q73
    show jJ G 15 53 [(5, .long r66), (4, .int x48), (0, .ref v0), (1, .int v1), (2, .int v2), (3, .int v3)] [.int r75] Z I71 L72 0 0
    refine j_if_ne E 57 dX6_offerBy_53 (by decide) (fun c76 => ?_) (fun c76 => ?_)
    · have h := h.1 c76
      refine j_iload_n E dX6_offerBy_57 5 rfl ?_
      refine j_iload_n E dX6_offerBy_58 3 rfl ?_
      refine j_iconst E (v := 1) dX6_offerBy_59 (by decide) ?_
      refine j_iadd E dX6_offerBy_60 ?_
      refine j_icmp_ne E 68 dX6_offerBy_61 (by decide) (fun c77 => ?_) (fun c77 => ?_)
      · have h := h.1 c77
        refine j_iconst E (v := 1) dX6_offerBy_68 (by decide) ?_
        refine j_sub [2, 3, 4, 5, 1, 0] rfl ?_
        exact m_X6_offerBy_b69 E hZ  v0 v1 v2 v3 x48 r66 (1 : Int32) I71 L72 kv0 h
      · have h := h.2 c77
        refine j_iconst E (v := 0) dX6_offerBy_64 (by decide) ?_
        refine j_goto E 69 dX6_offerBy_65 (by decide) ?_
        refine j_sub [2, 3, 4, 5, 1, 0] rfl ?_
        exact m_X6_offerBy_b69 E hZ  v0 v1 v2 v3 x48 r66 (0 : Int32) I71 L72 kv0 h
    · have h := h.2 c76
      exact j_return E ⟨rfl, rfl, h⟩ (Nat.zero_le _) (Nat.zero_le _) dX6_offerBy_56
set_option maxRecDepth 100000 in
def f_X6_addOffers_b148 (K88 : Nat → Nat → Nat → Int32 → jI → jL → Prop) (Z : jZ) (Q : jI → jL → Prop) (v0 : Nat) (v2 : Nat) (v3 : Nat) (v4 : Int32) (I : jI) (L : jL) : Prop := (∀ x1 : Int32, x1 = v4 + 1 → K88 v0 v2 v3 x1 I L)
set_option maxHeartbeats 4000000 in
set_option maxRecDepth 100000 in
theorem m_X6_addOffers_b148 {G : jG} {Z : jZ} {Q : jI → jL → Prop} (E : jE G cX6_addOffers RX6 w_X6_addOffers 6 none { frames := 4, cells := 0, slots := 0, locals := 112 } (rtV Z Q)) (hZ : SH Z) (K88 : Nat → Nat → Nat → Int32 → jI → jL → Prop) (hK88 : ∀ (v0 : Nat) (v2 : Nat) (v3 : Nat) (v4 : Int32) (I : jI) (L : jL), jk Z v0 6 → jk Z v2 14 → jk Z v3 14 → K88 v0 v2 v3 v4 I L → jJ G 6 88 [(0, .ref v0), (2, .ref v2), (3, .ref v3), (4, .int v4)] [] Z I L 0 0) (v0 : Nat) (v2 : Nat) (v3 : Nat) (v4 : Int32) (I : jI) (L : jL) (kv0 : jk Z v0 6) (kv2 : jk Z v2 14) (kv3 : jk Z v3 14) (h : f_X6_addOffers_b148 K88 Z Q v0 v2 v3 v4 I L) : jJ G 6 148 [(0, .ref v0), (2, .ref v2), (3, .ref v3), (4, .int v4)] [] Z I L 0 0 := by
  obtain ⟨x1, ex1⟩ : ∃ y : Int32, y = v4 + 1 := ⟨_, rfl⟩
  have h := h x1 ex1
  refine j_iinc E x1 [(4, .int x1), (0, .ref v0), (2, .ref v2), (3, .ref v3)] dX6_addOffers_148 3 rfl (by rw [ex1]; rfl) (by decide) rfl ?_
  refine j_goto E 88 dX6_addOffers_151 (by decide) ?_
  refine j_sub [1, 2, 3, 0] rfl ?_
  exact hK88 v0 v2 v3 x1 I L kv0 kv2 kv3 h
set_option maxRecDepth 100000 in
def f_X6_addOffers_L88  (Z : jZ) (Q : jI → jL → Prop) : Nat → Nat → Nat → Nat → Int32 → jI → jL → Prop
  | 0 => fun _ _ _ _ _ _ => False
  | n + 1 => fun v0 v2 v3 v4 I L => (((20 : Int32) < v4 → Q I L) ∧ (¬ ((20 : Int32) < v4) → (∀ b3 : Nat, jr Z v0 11 = some b3 → (vp_in v4 21 ∧ (((lg_cmp (L b3 v4.toNatClampNeg) (9223372036854775807 : Int64)) = 0 → f_X6_addOffers_b148 (f_X6_addOffers_L88 Z Q n) Z Q v0 v2 v3 v4 I L) ∧ (¬ ((lg_cmp (L b3 v4.toNatClampNeg) (9223372036854775807 : Int64)) = 0) → (∀ b6 : Nat, jr Z v0 11 = some b6 → (vp_in v4 21 ∧ (f_X11_costIn (L b6 v4.toNatClampNeg) Z I L (fun r14 I10 L11 => (((I10 v0 2) < r14 → f_X6_addOffers_b148 (f_X6_addOffers_L88 Z Q n) Z Q v0 v2 v3 v4 I10 L11) ∧ (¬ ((I10 v0 2) < r14) → (vp_in v4 (jlen Z v2) ∧ (∀ b17 : Nat, jr Z v0 12 = some b17 → (vp_in v4 21 ∧ (vp_in v4 (jlen Z v2) ∧ (∀ I20 : jI, I20 = jpI I10 v2 v4.toNatClampNeg ((I10 v2 v4.toNatClampNeg) + (I10 b17 v4.toNatClampNeg)) → (vp_in v4 (jlen Z v3) ∧ (vp_in v4 (jlen Z v3) ∧ (∀ I23 : jI, I23 = jpI I20 v3 v4.toNatClampNeg ((I20 v3 v4.toNatClampNeg) + (1 : Int32)) → f_X6_addOffers_b148 (f_X6_addOffers_L88 Z Q n) Z Q v0 v2 v3 v4 I23 L11))))))))))))))))))))
set_option maxHeartbeats 4000000 in
set_option maxRecDepth 100000 in
theorem m_X6_addOffers_L88 {G : jG} {Z : jZ} {Q : jI → jL → Prop} (E : jE G cX6_addOffers RX6 w_X6_addOffers 6 none { frames := 4, cells := 0, slots := 0, locals := 112 } (rtV Z Q)) (hZ : SH Z)  : ∀ (n : Nat) (v0 : Nat) (v2 : Nat) (v3 : Nat) (v4 : Int32) (I : jI) (L : jL), jk Z v0 6 → jk Z v2 14 → jk Z v3 14 → f_X6_addOffers_L88  Z Q n v0 v2 v3 v4 I L → jJ G 6 88 [(0, .ref v0), (2, .ref v2), (3, .ref v3), (4, .int v4)] [] Z I L 0 0 := by
  intro n
  induction n with
  | zero => intro v0 v2 v3 v4 I L _ _ _ h; exact h.elim
  | succ n ih =>
    intro v0 v2 v3 v4 I L kv0 kv2 kv3 h
    have h : (((20 : Int32) < v4 → Q I L) ∧ (¬ ((20 : Int32) < v4) → (∀ b3 : Nat, jr Z v0 11 = some b3 → (vp_in v4 21 ∧ (((lg_cmp (L b3 v4.toNatClampNeg) (9223372036854775807 : Int64)) = 0 → f_X6_addOffers_b148 (f_X6_addOffers_L88 Z Q n) Z Q v0 v2 v3 v4 I L) ∧ (¬ ((lg_cmp (L b3 v4.toNatClampNeg) (9223372036854775807 : Int64)) = 0) → (∀ b6 : Nat, jr Z v0 11 = some b6 → (vp_in v4 21 ∧ (f_X11_costIn (L b6 v4.toNatClampNeg) Z I L (fun r14 I10 L11 => (((I10 v0 2) < r14 → f_X6_addOffers_b148 (f_X6_addOffers_L88 Z Q n) Z Q v0 v2 v3 v4 I10 L11) ∧ (¬ ((I10 v0 2) < r14) → (vp_in v4 (jlen Z v2) ∧ (∀ b17 : Nat, jr Z v0 12 = some b17 → (vp_in v4 21 ∧ (vp_in v4 (jlen Z v2) ∧ (∀ I20 : jI, I20 = jpI I10 v2 v4.toNatClampNeg ((I10 v2 v4.toNatClampNeg) + (I10 b17 v4.toNatClampNeg)) → (vp_in v4 (jlen Z v3) ∧ (vp_in v4 (jlen Z v3) ∧ (∀ I23 : jI, I23 = jpI I20 v3 v4.toNatClampNeg ((I20 v3 v4.toNatClampNeg) + (1 : Int32)) → f_X6_addOffers_b148 (f_X6_addOffers_L88 Z Q n) Z Q v0 v2 v3 v4 I23 L11)))))))))))))))))))) := h
    obtain ⟨K88, eK88⟩ : ∃ K : Nat → Nat → Nat → Int32 → jI → jL → Prop, K = f_X6_addOffers_L88  Z Q n := ⟨_, rfl⟩
    have hK88 := ih
    clear eK88 K88
    generalize f_X6_addOffers_L88  Z Q n = K88 at hK88 h
    refine j_iload E dX6_addOffers_88 3 rfl ?_
    refine j_bipush E (v := 20) dX6_addOffers_90 (by decide) ?_
    refine j_icmp_gt E 154 dX6_addOffers_92 (by decide) (fun c2 => ?_) (fun c2 => ?_)
    · have h := h.1 c2
      exact j_return E ⟨rfl, rfl, h⟩ (Nat.zero_le _) (Nat.zero_le _) dX6_addOffers_154
    · have h := h.2 c2
      refine j_aload_n E dX6_addOffers_95 0 rfl ?_
      obtain ⟨b3, eb3, kb3, lb3⟩ := sh_f hZ kv0 (j := 11) (k := 15) (m := 21) rfl
      have h := h b3 eb3
      refine j_getr E 6 11 rfl rfl (by decide) (by decide) (iw iT_6) rfl rfl (tw W_349) kv0 eb3 dX6_addOffers_96 ?_
      refine j_iload E dX6_addOffers_99 3 rfl ?_
      obtain ⟨o4, h⟩ := h
      refine j_lald E kb3 (by rw [lb3]; exact o4) dX6_addOffers_101 ?_
      refine j_ldc2 E (tw W_328) dX6_addOffers_102 ?_
      refine j_lcmp E dX6_addOffers_105 ?_
      refine j_if_eq E 148 dX6_addOffers_106 (by decide) (fun c5 => ?_) (fun c5 => ?_)
      · have h := h.1 c5
        refine j_sub [0, 1, 2, 3] rfl ?_
        exact m_X6_addOffers_b148 E hZ K88 hK88 v0 v2 v3 v4 I L kv0 kv2 kv3 h
      · have h := h.2 c5
        refine j_aload_n E dX6_addOffers_109 0 rfl ?_
        obtain ⟨b6, eb6, kb6, lb6⟩ := sh_f hZ kv0 (j := 11) (k := 15) (m := 21) rfl
        have h := h b6 eb6
        refine j_getr E 6 11 rfl rfl (by decide) (by decide) (iw iT_6) rfl rfl (tw W_349) kv0 eb6 dX6_addOffers_110 ?_
        refine j_iload E dX6_addOffers_113 3 rfl ?_
        obtain ⟨o7, h⟩ := h
        refine j_lald E kb6 (by rw [lb6]; exact o7) dX6_addOffers_115 ?_
        refine j_callSN E [.long (L b6 v4.toNatClampNeg)] [] (c_X11_costIn (gL G) (gD G) (gY G) (L b6 v4.toNatClampNeg) Z I L _ hZ  h) (gwN W_66) rfl (nm_X11_costIn_X6_172) (tw W_40) (tw W_67) fy_X11_costIn ⟨by decide, by decide⟩ rfl rfl (Nat.le_of_ble_eq_true rfl) ⟨Nat.zero_le _, Nat.zero_le _⟩ dX6_addOffers_116 (fun v8 Z9 I10 L11 q12 => ?_)
        obtain ⟨rfl, r14, rfl, h⟩ := q12
        show jJ G 6 119 [(0, .ref v0), (2, .ref v2), (3, .ref v3), (4, .int v4)] [.int r14] Z I10 L11 0 0
        refine j_aload_n E dX6_addOffers_119 0 rfl ?_
        refine j_geti E 6 2 rfl rfl (by decide) (by decide) (iw iT_6) rfl rfl (tw W_315) kv0 dX6_addOffers_120 ?_
        refine j_icmp_gt E 148 dX6_addOffers_123 (by decide) (fun c15 => ?_) (fun c15 => ?_)
        · have h := h.1 c15
          refine j_sub [0, 1, 2, 3] rfl ?_
          exact m_X6_addOffers_b148 E hZ K88 hK88 v0 v2 v3 v4 I10 L11 kv0 kv2 kv3 h
        · have h := h.2 c15
          refine j_aload_n E dX6_addOffers_126 1 rfl ?_
          refine j_iload E dX6_addOffers_127 3 rfl ?_
          refine j_dup2_11 E dX6_addOffers_129 rfl rfl ?_
          obtain ⟨o16, h⟩ := h
          refine j_iald E kv2 o16 dX6_addOffers_130 ?_
          refine j_aload_n E dX6_addOffers_131 0 rfl ?_
          obtain ⟨b17, eb17, kb17, lb17⟩ := sh_f hZ kv0 (j := 12) (k := 14) (m := 21) rfl
          have h := h b17 eb17
          refine j_getr E 6 12 rfl rfl (by decide) (by decide) (iw iT_6) rfl rfl (tw W_350) kv0 eb17 dX6_addOffers_132 ?_
          refine j_iload E dX6_addOffers_135 3 rfl ?_
          obtain ⟨o18, h⟩ := h
          refine j_iald E kb17 (by rw [lb17]; exact o18) dX6_addOffers_137 ?_
          refine j_iadd E dX6_addOffers_138 ?_
          obtain ⟨o19, h⟩ := h
          refine j_iast E kv2 o19 dX6_addOffers_139 ?_
          refine j_nmI (fun I20 eI20 => ?_)
          have h := h I20 eI20
          refine j_aload_n E dX6_addOffers_140 2 rfl ?_
          refine j_iload E dX6_addOffers_141 3 rfl ?_
          refine j_dup2_11 E dX6_addOffers_143 rfl rfl ?_
          obtain ⟨o21, h⟩ := h
          refine j_iald E kv3 o21 dX6_addOffers_144 ?_
          refine j_iconst E (v := 1) dX6_addOffers_145 (by decide) ?_
          refine j_iadd E dX6_addOffers_146 ?_
          obtain ⟨o22, h⟩ := h
          refine j_iast E kv3 o22 dX6_addOffers_147 ?_
          refine j_nmI (fun I23 eI23 => ?_)
          have h := h I23 eI23
          refine j_sub [0, 1, 2, 3] rfl ?_
          exact m_X6_addOffers_b148 E hZ K88 hK88 v0 v2 v3 v4 I23 L11 kv0 kv2 kv3 h
set_option maxRecDepth 100000 in
def f_X6_addOffers_b85  (Z : jZ) (Q : jI → jL → Prop) (v0 : Nat) (v2 : Nat) (v3 : Nat) (I : jI) (L : jL) : Prop := (∃ m88 : Nat, f_X6_addOffers_L88  Z Q m88 v0 v2 v3 (0 : Int32) I L)
set_option maxHeartbeats 4000000 in
set_option maxRecDepth 100000 in
theorem m_X6_addOffers_b85 {G : jG} {Z : jZ} {Q : jI → jL → Prop} (E : jE G cX6_addOffers RX6 w_X6_addOffers 6 none { frames := 4, cells := 0, slots := 0, locals := 112 } (rtV Z Q)) (hZ : SH Z)  (v0 : Nat) (v2 : Nat) (v3 : Nat) (I : jI) (L : jL) (kv0 : jk Z v0 6) (kv2 : jk Z v2 14) (kv3 : jk Z v3 14) (h : f_X6_addOffers_b85  Z Q v0 v2 v3 I L) : jJ G 6 85 [(0, .ref v0), (2, .ref v2), (3, .ref v3)] [] Z I L 0 0 := by
  refine j_iconst E (v := 0) dX6_addOffers_85 (by decide) ?_
  refine j_istore E 4 [(4, .int (0 : Int32)), (0, .ref v0), (2, .ref v2), (3, .ref v3)] dX6_addOffers_86 (by decide) rfl ?_
  obtain ⟨n24, h⟩ := h
  refine j_sub [1, 2, 3, 0] rfl ?_
  exact m_X6_addOffers_L88 E hZ  n24 v0 v2 v3 (0 : Int32) I L kv0 kv2 kv3 h
set_option maxRecDepth 100000 in
def f_X6_addOffers_b79 (K15 : Nat → Int32 → Nat → Nat → Int32 → jI → jL → Prop) (Z : jZ) (Q : jI → jL → Prop) (v0 : Nat) (v1 : Int32) (v2 : Nat) (v3 : Nat) (v4 : Int32) (I : jI) (L : jL) : Prop := (∀ x25 : Int32, x25 = v4 + 1 → K15 v0 v1 v2 v3 x25 I L)
set_option maxHeartbeats 4000000 in
set_option maxRecDepth 100000 in
theorem m_X6_addOffers_b79 {G : jG} {Z : jZ} {Q : jI → jL → Prop} (E : jE G cX6_addOffers RX6 w_X6_addOffers 6 none { frames := 4, cells := 0, slots := 0, locals := 112 } (rtV Z Q)) (hZ : SH Z) (K15 : Nat → Int32 → Nat → Nat → Int32 → jI → jL → Prop) (hK15 : ∀ (v0 : Nat) (v1 : Int32) (v2 : Nat) (v3 : Nat) (v4 : Int32) (I : jI) (L : jL), jk Z v0 6 → jk Z v2 14 → jk Z v3 14 → K15 v0 v1 v2 v3 v4 I L → jJ G 6 15 [(0, .ref v0), (1, .int v1), (2, .ref v2), (3, .ref v3), (4, .int v4)] [] Z I L 0 0) (v0 : Nat) (v1 : Int32) (v2 : Nat) (v3 : Nat) (v4 : Int32) (I : jI) (L : jL) (kv0 : jk Z v0 6) (kv2 : jk Z v2 14) (kv3 : jk Z v3 14) (h : f_X6_addOffers_b79 K15 Z Q v0 v1 v2 v3 v4 I L) : jJ G 6 79 [(0, .ref v0), (1, .int v1), (2, .ref v2), (3, .ref v3), (4, .int v4)] [] Z I L 0 0 := by
  obtain ⟨x25, ex25⟩ : ∃ y : Int32, y = v4 + 1 := ⟨_, rfl⟩
  have h := h x25 ex25
  refine j_iinc E x25 [(4, .int x25), (0, .ref v0), (1, .int v1), (2, .ref v2), (3, .ref v3)] dX6_addOffers_79 4 rfl (by rw [ex25]; rfl) (by decide) rfl ?_
  refine j_goto E 15 dX6_addOffers_82 (by decide) ?_
  refine j_sub [1, 2, 3, 4, 0] rfl ?_
  exact hK15 v0 v1 v2 v3 x25 I L kv0 kv2 kv3 h
set_option maxRecDepth 100000 in
def f_X6_addOffers_L48 (K15 : Nat → Int32 → Nat → Nat → Int32 → jI → jL → Prop) (Z : jZ) (Q : jI → jL → Prop) : Nat → Nat → Int32 → Nat → Nat → Int32 → Int32 → jI → jL → Prop
  | 0 => fun _ _ _ _ _ _ _ _ => False
  | n + 1 => fun v0 v1 v2 v3 v4 v5 I L => ((v1 < v5 → f_X6_addOffers_b79 K15 Z Q v0 v1 v2 v3 v4 I L) ∧ (¬ (v1 < v5) → (∀ b27 : Nat, jr Z v0 6 = some b27 → (vp_in v4 25 ∧ (((I b27 v4.toNatClampNeg) = 0 → f_X6_addOffers_b79 K15 Z Q v0 v1 v2 v3 v4 I L) ∧ (¬ ((I b27 v4.toNatClampNeg) = 0) → (f_X6_offerBy v0 v1 v5 v4 Z I L (fun I32 L33 => (∀ x36 : Int32, x36 = v5 + 1 → (f_X6_addOffers_L48 K15 Z Q n) v0 v1 v2 v3 v4 x36 I32 L33)))))))))
set_option maxHeartbeats 4000000 in
set_option maxRecDepth 100000 in
theorem m_X6_addOffers_L48 {G : jG} {Z : jZ} {Q : jI → jL → Prop} (E : jE G cX6_addOffers RX6 w_X6_addOffers 6 none { frames := 4, cells := 0, slots := 0, locals := 112 } (rtV Z Q)) (hZ : SH Z) (K15 : Nat → Int32 → Nat → Nat → Int32 → jI → jL → Prop) (hK15 : ∀ (v0 : Nat) (v1 : Int32) (v2 : Nat) (v3 : Nat) (v4 : Int32) (I : jI) (L : jL), jk Z v0 6 → jk Z v2 14 → jk Z v3 14 → K15 v0 v1 v2 v3 v4 I L → jJ G 6 15 [(0, .ref v0), (1, .int v1), (2, .ref v2), (3, .ref v3), (4, .int v4)] [] Z I L 0 0) : ∀ (n : Nat) (v0 : Nat) (v1 : Int32) (v2 : Nat) (v3 : Nat) (v4 : Int32) (v5 : Int32) (I : jI) (L : jL), jk Z v0 6 → jk Z v2 14 → jk Z v3 14 → f_X6_addOffers_L48 K15 Z Q n v0 v1 v2 v3 v4 v5 I L → jJ G 6 48 [(0, .ref v0), (1, .int v1), (2, .ref v2), (3, .ref v3), (4, .int v4), (5, .int v5)] [] Z I L 0 0 := by
  intro n
  induction n with
  | zero => intro v0 v1 v2 v3 v4 v5 I L _ _ _ h; exact h.elim
  | succ n ih =>
    intro v0 v1 v2 v3 v4 v5 I L kv0 kv2 kv3 h
    have h : ((v1 < v5 → f_X6_addOffers_b79 K15 Z Q v0 v1 v2 v3 v4 I L) ∧ (¬ (v1 < v5) → (∀ b27 : Nat, jr Z v0 6 = some b27 → (vp_in v4 25 ∧ (((I b27 v4.toNatClampNeg) = 0 → f_X6_addOffers_b79 K15 Z Q v0 v1 v2 v3 v4 I L) ∧ (¬ ((I b27 v4.toNatClampNeg) = 0) → (f_X6_offerBy v0 v1 v5 v4 Z I L (fun I32 L33 => (∀ x36 : Int32, x36 = v5 + 1 → (f_X6_addOffers_L48 K15 Z Q n) v0 v1 v2 v3 v4 x36 I32 L33))))))))) := h
    obtain ⟨K48, eK48⟩ : ∃ K : Nat → Int32 → Nat → Nat → Int32 → Int32 → jI → jL → Prop, K = f_X6_addOffers_L48 K15 Z Q n := ⟨_, rfl⟩
    have hK48 := ih
    clear eK48 K48
    generalize f_X6_addOffers_L48 K15 Z Q n = K48 at hK48 h
    refine j_iload E dX6_addOffers_48 5 rfl ?_
    refine j_iload_n E dX6_addOffers_50 1 rfl ?_
    refine j_icmp_gt E 79 dX6_addOffers_51 (by decide) (fun c26 => ?_) (fun c26 => ?_)
    · have h := h.1 c26
      refine j_sub [0, 1, 2, 3, 4] rfl ?_
      exact m_X6_addOffers_b79 E hZ K15 hK15 v0 v1 v2 v3 v4 I L kv0 kv2 kv3 h
    · have h := h.2 c26
      refine j_aload_n E dX6_addOffers_54 0 rfl ?_
      obtain ⟨b27, eb27, kb27, lb27⟩ := sh_f hZ kv0 (j := 6) (k := 16) (m := 25) rfl
      have h := h b27 eb27
      refine j_getr E 6 6 rfl rfl (by decide) (by decide) (iw iT_6) rfl rfl (tw W_59) kv0 eb27 dX6_addOffers_55 ?_
      refine j_iload E dX6_addOffers_58 4 rfl ?_
      obtain ⟨o28, h⟩ := h
      refine j_zald E kb27 (by rw [lb27]; exact o28) dX6_addOffers_60 ?_
      refine j_if_eq E 79 dX6_addOffers_61 (by decide) (fun c29 => ?_) (fun c29 => ?_)
      · have h := h.1 c29
        refine j_sub [0, 1, 2, 3, 4] rfl ?_
        exact m_X6_addOffers_b79 E hZ K15 hK15 v0 v1 v2 v3 v4 I L kv0 kv2 kv3 h
      · have h := h.2 c29
        refine j_aload_n E dX6_addOffers_64 0 rfl ?_
        refine j_iload_n E dX6_addOffers_65 1 rfl ?_
        refine j_iload E dX6_addOffers_66 5 rfl ?_
        refine j_iload E dX6_addOffers_68 4 rfl ?_
        refine j_callV E [.int v1, .int v5, .int v4] [] (c_X6_offerBy (gL G) (gD G) (gY G) v0 v1 v5 v4 Z I L _ hZ kv0 h) (gwV W_363 W_364 W_365 W_33 W_362) rfl ⟨rfl, fy_X6_offerBy⟩ ⟨by decide, by decide⟩ (c := 6) rfl (by decide) kv0 rfl rfl (Nat.le_of_ble_eq_true rfl) ⟨Nat.zero_le _, Nat.zero_le _⟩ dX6_addOffers_70 (fun v30 Z31 I32 L33 q34 => ?_)
        obtain ⟨rfl, rfl, h⟩ := q34
        show jJ G 6 73 [(0, .ref v0), (1, .int v1), (2, .ref v2), (3, .ref v3), (4, .int v4), (5, .int v5)] [] Z I32 L33 0 0
        obtain ⟨x36, ex36⟩ : ∃ y : Int32, y = v5 + 1 := ⟨_, rfl⟩
        have h := h x36 ex36
        refine j_iinc E x36 [(5, .int x36), (0, .ref v0), (1, .int v1), (2, .ref v2), (3, .ref v3), (4, .int v4)] dX6_addOffers_73 5 rfl (by rw [ex36]; rfl) (by decide) rfl ?_
        refine j_goto E 48 dX6_addOffers_76 (by decide) ?_
        refine j_sub [1, 2, 3, 4, 5, 0] rfl ?_
        exact hK48 v0 v1 v2 v3 v4 x36 I32 L33 kv0 kv2 kv3 h
set_option maxRecDepth 100000 in
def f_X6_addOffers_L15  (Z : jZ) (Q : jI → jL → Prop) : Nat → Nat → Int32 → Nat → Nat → Int32 → jI → jL → Prop
  | 0 => fun _ _ _ _ _ _ _ => False
  | n + 1 => fun v0 v1 v2 v3 v4 I L => (((I v0 15) < v4 → f_X6_addOffers_b85  Z Q v0 v2 v3 I L) ∧ (¬ ((I v0 15) < v4) → (((v1 + (I v0 3)) < v4 → f_X6_addOffers_b85  Z Q v0 v2 v3 I L) ∧ (¬ ((v1 + (I v0 3)) < v4) → (∀ x39 : Int32, x39 = (if (0 : Int32) < (v4 - (I v0 3)) then (v4 - (I v0 3)) else (0 : Int32)) → (∃ m48 : Nat, f_X6_addOffers_L48 (f_X6_addOffers_L15 Z Q n) Z Q m48 v0 v1 v2 v3 v4 x39 I L))))))
set_option maxHeartbeats 4000000 in
set_option maxRecDepth 100000 in
theorem m_X6_addOffers_L15 {G : jG} {Z : jZ} {Q : jI → jL → Prop} (E : jE G cX6_addOffers RX6 w_X6_addOffers 6 none { frames := 4, cells := 0, slots := 0, locals := 112 } (rtV Z Q)) (hZ : SH Z)  : ∀ (n : Nat) (v0 : Nat) (v1 : Int32) (v2 : Nat) (v3 : Nat) (v4 : Int32) (I : jI) (L : jL), jk Z v0 6 → jk Z v2 14 → jk Z v3 14 → f_X6_addOffers_L15  Z Q n v0 v1 v2 v3 v4 I L → jJ G 6 15 [(0, .ref v0), (1, .int v1), (2, .ref v2), (3, .ref v3), (4, .int v4)] [] Z I L 0 0 := by
  intro n
  induction n with
  | zero => intro v0 v1 v2 v3 v4 I L _ _ _ h; exact h.elim
  | succ n ih =>
    intro v0 v1 v2 v3 v4 I L kv0 kv2 kv3 h
    have h : (((I v0 15) < v4 → f_X6_addOffers_b85  Z Q v0 v2 v3 I L) ∧ (¬ ((I v0 15) < v4) → (((v1 + (I v0 3)) < v4 → f_X6_addOffers_b85  Z Q v0 v2 v3 I L) ∧ (¬ ((v1 + (I v0 3)) < v4) → (∀ x39 : Int32, x39 = (if (0 : Int32) < (v4 - (I v0 3)) then (v4 - (I v0 3)) else (0 : Int32)) → (∃ m48 : Nat, f_X6_addOffers_L48 (f_X6_addOffers_L15 Z Q n) Z Q m48 v0 v1 v2 v3 v4 x39 I L)))))) := h
    obtain ⟨K15, eK15⟩ : ∃ K : Nat → Int32 → Nat → Nat → Int32 → jI → jL → Prop, K = f_X6_addOffers_L15  Z Q n := ⟨_, rfl⟩
    have hK15 := ih
    clear eK15 K15
    generalize f_X6_addOffers_L15  Z Q n = K15 at hK15 h
    refine j_iload E dX6_addOffers_15 4 rfl ?_
    refine j_aload_n E dX6_addOffers_17 0 rfl ?_
    refine j_geti E 6 15 rfl rfl (by decide) (by decide) (iw iT_6) rfl rfl (tw W_296) kv0 dX6_addOffers_18 ?_
    refine j_icmp_gt E 85 dX6_addOffers_21 (by decide) (fun c37 => ?_) (fun c37 => ?_)
    · have h := h.1 c37
      refine j_sub [0, 2, 3] rfl ?_
      exact m_X6_addOffers_b85 E hZ  v0 v2 v3 I L kv0 kv2 kv3 h
    · have h := h.2 c37
      refine j_iload E dX6_addOffers_24 4 rfl ?_
      refine j_iload_n E dX6_addOffers_26 1 rfl ?_
      refine j_aload_n E dX6_addOffers_27 0 rfl ?_
      refine j_geti E 6 3 rfl rfl (by decide) (by decide) (iw iT_6) rfl rfl (tw W_58) kv0 dX6_addOffers_28 ?_
      refine j_iadd E dX6_addOffers_31 ?_
      refine j_icmp_gt E 85 dX6_addOffers_32 (by decide) (fun c38 => ?_) (fun c38 => ?_)
      · have h := h.1 c38
        refine j_sub [0, 2, 3] rfl ?_
        exact m_X6_addOffers_b85 E hZ  v0 v2 v3 I L kv0 kv2 kv3 h
      · have h := h.2 c38
        refine j_iconst E (v := 0) dX6_addOffers_35 (by decide) ?_
        refine j_iload E dX6_addOffers_36 4 rfl ?_
        refine j_aload_n E dX6_addOffers_38 0 rfl ?_
        refine j_geti E 6 3 rfl rfl (by decide) (by decide) (iw iT_6) rfl rfl (tw W_58) kv0 dX6_addOffers_39 ?_
        refine j_isub E dX6_addOffers_42 ?_
        refine j_max E (tw W_297) (tw W_147) (tw W_8) (tw W_148) (Nat.le_of_ble_eq_true rfl) (Nat.le_of_ble_eq_true rfl) (Nat.zero_le _) (Nat.zero_le _) dX6_addOffers_43 ?_
        refine j_topi (fun x39 ex39 => ?_)
        have h := h x39 ex39
        refine j_istore E 5 [(5, .int x39), (0, .ref v0), (1, .int v1), (2, .ref v2), (3, .ref v3), (4, .int v4)] dX6_addOffers_46 (by decide) rfl ?_
        obtain ⟨n40, h⟩ := h
        refine j_sub [1, 2, 3, 4, 5, 0] rfl ?_
        exact m_X6_addOffers_L48 E hZ K15 hK15 n40 v0 v1 v2 v3 v4 x39 I L kv0 kv2 kv3 h
set_option maxRecDepth 100000 in
def f_X6_addOffers (v0 : Nat) (v1 : Int32) (v2 : Nat) (v3 : Nat) (Z : jZ) (I : jI) (L : jL) (Q : jI → jL → Prop) : Prop := (∀ b41 : Nat, jr Z v0 11 = some b41 → (f_J7_fill_d0a16 b41 (9223372036854775807 : Int64) Z I L (fun I44 L45 => (∀ x48 : Int32, x48 = (v1 + (1 : Int32)) → (∃ m15 : Nat, f_X6_addOffers_L15  Z Q m15 v0 v1 v2 v3 x48 I44 L45)))))
set_option maxHeartbeats 4000000 in
set_option maxRecDepth 100000 in
theorem c_X6_addOffers (l : Launch) (D : va_G) (cy : jC) (v0 : Nat) (v1 : Int32) (v2 : Nat) (v3 : Nat) (Z : jZ) (I : jI) (L : jL) (Q : jI → jL → Prop) (hZ : SH Z) (kv0 : jk Z v0 6) (kv2 : jk Z v2 14) (kv3 : jk Z v3 14) (h : f_X6_addOffers v0 v1 v2 v3 Z I L Q) : jCt l yX6_addOffers w_X6_addOffers { frames := 4, cells := 0, slots := 0, locals := 112 } D cy [.ref v0, .int v1, .ref v2, .ref v3] Z I L (rtV Z Q) := by
  refine jCt_of (cc := cX6_addOffers) (maxL := 6) (ret := none) (by decide +kernel) rfl (Nat.le_of_ble_eq_true rfl) ?_
  intro G eD eY eL E
  subst eD; subst eY; subst eL
  have E : jE G cX6_addOffers RX6 w_X6_addOffers 6 none { frames := 4, cells := 0, slots := 0, locals := 112 } (rtV Z Q) := E
  show jJ G 6 0 [(0, .ref v0), (1, .int v1), (2, .ref v2), (3, .ref v3)] [] Z I L 0 0
  refine j_aload_n E dX6_addOffers_0 0 rfl ?_
  obtain ⟨b41, eb41, kb41, lb41⟩ := sh_f hZ kv0 (j := 11) (k := 15) (m := 21) rfl
  have h := h b41 eb41
  refine j_getr E 6 11 rfl rfl (by decide) (by decide) (iw iT_6) rfl rfl (tw W_349) kv0 eb41 dX6_addOffers_1 ?_
  refine j_ldc2 E (tw W_328) dX6_addOffers_4 ?_
  refine j_callS E [.ref b41, .long (9223372036854775807 : Int64)] [] (c_J7_fill_d0a16 (gL G) (gD G) (gY G) b41 (9223372036854775807 : Int64) Z I L _ hZ kb41 h) (gwS W_366 W_104 W_17 W_102) rfl fy_J7_fill_d0a16 ⟨by decide, by decide⟩ rfl rfl (Nat.le_of_ble_eq_true rfl) ⟨Nat.zero_le _, Nat.zero_le _⟩ dX6_addOffers_7 (fun v42 Z43 I44 L45 q46 => ?_)
  obtain ⟨rfl, rfl, h⟩ := q46
  show jJ G 6 10 [(0, .ref v0), (1, .int v1), (2, .ref v2), (3, .ref v3)] [] Z I44 L45 0 0
  refine j_iload_n E dX6_addOffers_10 1 rfl ?_
  refine j_iconst E (v := 1) dX6_addOffers_11 (by decide) ?_
  refine j_iadd E dX6_addOffers_12 ?_
  refine j_topi (fun x48 ex48 => ?_)
  have h := h x48 ex48
  refine j_istore E 4 [(4, .int x48), (0, .ref v0), (1, .int v1), (2, .ref v2), (3, .ref v3)] dX6_addOffers_13 (by decide) rfl ?_
  obtain ⟨n49, h⟩ := h
  refine j_sub [1, 2, 3, 4, 0] rfl ?_
  exact m_X6_addOffers_L15 E hZ  n49 v0 v1 v2 v3 x48 I44 L45 kv0 kv2 kv3 h
set_option maxRecDepth 100000 in
def f_X8_build (v0 : Nat) (v1 : Nat) (Z : jZ) (I : jI) (L : jL) (Q : jI → jL → Prop) : Prop := (∀ I1 : jI, I1 = jpI I v0 9 (I v1 5) → (∀ b2 : Nat, jr Z v1 0 = some b2 → (∀ b3 : Nat, jr Z v0 0 = some b3 → ((¬ (0 : Int32) < 0 ∧ ¬ (0 : Int32) < 0 ∧ ¬ (24 : Int32) < 0 ∧ (0 : Int32).toNatClampNeg + (24 : Int32).toNatClampNeg ≤ 24 ∧ (0 : Int32).toNatClampNeg + (24 : Int32).toNatClampNeg ≤ 24) ∧ (∀ I5 : jI, I5 = va_up I1 b3 (va_cpy (I1 b2) (I1 b3) (0 : Int32).toNatClampNeg (0 : Int32).toNatClampNeg (24 : Int32).toNatClampNeg) → (∀ b6 : Nat, jr Z v1 1 = some b6 → (∀ b7 : Nat, jr Z v0 1 = some b7 → ((¬ (0 : Int32) < 0 ∧ ¬ (0 : Int32) < 0 ∧ ¬ (24 : Int32) < 0 ∧ (0 : Int32).toNatClampNeg + (24 : Int32).toNatClampNeg ≤ 24 ∧ (0 : Int32).toNatClampNeg + (24 : Int32).toNatClampNeg ≤ 24) ∧ (∀ I9 : jI, I9 = va_up I5 b7 (va_cpy (I5 b6) (I5 b7) (0 : Int32).toNatClampNeg (0 : Int32).toNatClampNeg (24 : Int32).toNatClampNeg) → (∀ b10 : Nat, jr Z v1 2 = some b10 → (∀ b11 : Nat, jr Z v0 2 = some b11 → ((¬ (0 : Int32) < 0 ∧ ¬ (0 : Int32) < 0 ∧ ¬ (24 : Int32) < 0 ∧ (0 : Int32).toNatClampNeg + (24 : Int32).toNatClampNeg ≤ 24 ∧ (0 : Int32).toNatClampNeg + (24 : Int32).toNatClampNeg ≤ 24) ∧ (∀ I13 : jI, I13 = va_up I9 b11 (va_cpy (I9 b10) (I9 b11) (0 : Int32).toNatClampNeg (0 : Int32).toNatClampNeg (24 : Int32).toNatClampNeg) → (∀ b14 : Nat, jr Z v1 3 = some b14 → (∀ b15 : Nat, jr Z v0 3 = some b15 → ((¬ (0 : Int32) < 0 ∧ ¬ (0 : Int32) < 0 ∧ ¬ (24 : Int32) < 0 ∧ (0 : Int32).toNatClampNeg + (24 : Int32).toNatClampNeg ≤ 24 ∧ (0 : Int32).toNatClampNeg + (24 : Int32).toNatClampNeg ≤ 24) ∧ (∀ I17 : jI, I17 = va_up I13 b15 (va_cpy (I13 b14) (I13 b15) (0 : Int32).toNatClampNeg (0 : Int32).toNatClampNeg (24 : Int32).toNatClampNeg) → (∀ b18 : Nat, jr Z v0 4 = some b18 → (∀ b19 : Nat, jr Z v1 4 = some b19 → (f_X4_deal b18 b19 (I17 v0 9) Z I17 L (fun I22 L23 => Q I22 L23)))))))))))))))))))))
set_option maxHeartbeats 4000000 in
set_option maxRecDepth 100000 in
theorem c_X8_build (l : Launch) (D : va_G) (cy : jC) (v0 : Nat) (v1 : Nat) (Z : jZ) (I : jI) (L : jL) (Q : jI → jL → Prop) (hZ : SH Z) (kv0 : jk Z v0 8) (kv1 : jk Z v1 9) (h : f_X8_build v0 v1 Z I L Q) : jCt l yX8_build w_X8_build { frames := 3, cells := 0, slots := 0, locals := 67 } D cy [.ref v0, .ref v1] Z I L (rtV Z Q) := by
  refine jCt_of (cc := cX8_build) (maxL := 2) (ret := none) (by decide +kernel) rfl (Nat.le_of_ble_eq_true rfl) ?_
  intro G eD eY eL E
  subst eD; subst eY; subst eL
  have E : jE G cX8_build RX8 w_X8_build 2 none { frames := 3, cells := 0, slots := 0, locals := 67 } (rtV Z Q) := E
  show jJ G 2 0 [(0, .ref v0), (1, .ref v1)] [] Z I L 0 0
  refine j_aload_n E dX8_build_0 0 rfl ?_
  refine j_aload_n E dX8_build_1 1 rfl ?_
  refine j_getiN E 9 5 rfl rfl (by decide) (by decide) (iw iT_9) rfl rfl (nw_9_5_X8_51) kv1 dX8_build_2 ?_
  refine j_puti E 8 9 rfl rfl (by decide) (by decide) (iw iT_8) tyX8_ok nmX8 rfl rfl (tw W_250) rfl rfl rfl kv0 dX8_build_5 ?_
  refine j_nmI (fun I1 eI1 => ?_)
  have h := h I1 eI1
  refine j_aload_n E dX8_build_8 1 rfl ?_
  obtain ⟨b2, eb2, kb2, lb2⟩ := sh_f hZ kv1 (j := 0) (k := 14) (m := 24) rfl
  have h := h b2 eb2
  refine j_getrN E 9 0 rfl rfl (by decide) (by decide) (iw iT_9) rfl rfl (nw_9_0_X8_54) kv1 eb2 dX8_build_9 ?_
  refine j_iconst E (v := 0) dX8_build_12 (by decide) ?_
  refine j_aload_n E dX8_build_13 0 rfl ?_
  obtain ⟨b3, eb3, kb3, lb3⟩ := sh_f hZ kv0 (j := 0) (k := 14) (m := 24) rfl
  have h := h b3 eb3
  refine j_getr E 8 0 rfl rfl (by decide) (by decide) (iw iT_8) rfl rfl (tw W_259) kv0 eb3 dX8_build_14 ?_
  refine j_iconst E (v := 0) dX8_build_17 (by decide) ?_
  refine j_bipush E (v := 24) dX8_build_18 (by decide) ?_
  obtain ⟨o4, h⟩ := h
  refine j_copyi E (tw W_367) (tw W_11) (tw W_12) (tw W_13) kb2 kb3 o4.1 o4.2.1 o4.2.2.1 (by rw [lb2]; exact o4.2.2.2.1) (by rw [lb3]; exact o4.2.2.2.2) (Nat.le_of_ble_eq_true rfl) (Nat.le_of_ble_eq_true rfl) dX8_build_20 ?_
  refine j_nmI (fun I5 eI5 => ?_)
  have h := h I5 eI5
  refine j_aload_n E dX8_build_23 1 rfl ?_
  obtain ⟨b6, eb6, kb6, lb6⟩ := sh_f hZ kv1 (j := 1) (k := 14) (m := 24) rfl
  have h := h b6 eb6
  refine j_getrN E 9 1 rfl rfl (by decide) (by decide) (iw iT_9) rfl rfl (nw_9_1_X8_61) kv1 eb6 dX8_build_24 ?_
  refine j_iconst E (v := 0) dX8_build_27 (by decide) ?_
  refine j_aload_n E dX8_build_28 0 rfl ?_
  obtain ⟨b7, eb7, kb7, lb7⟩ := sh_f hZ kv0 (j := 1) (k := 14) (m := 24) rfl
  have h := h b7 eb7
  refine j_getr E 8 1 rfl rfl (by decide) (by decide) (iw iT_8) rfl rfl (tw W_260) kv0 eb7 dX8_build_29 ?_
  refine j_iconst E (v := 0) dX8_build_32 (by decide) ?_
  refine j_bipush E (v := 24) dX8_build_33 (by decide) ?_
  obtain ⟨o8, h⟩ := h
  refine j_copyi E (tw W_367) (tw W_11) (tw W_12) (tw W_13) kb6 kb7 o8.1 o8.2.1 o8.2.2.1 (by rw [lb6]; exact o8.2.2.2.1) (by rw [lb7]; exact o8.2.2.2.2) (Nat.le_of_ble_eq_true rfl) (Nat.le_of_ble_eq_true rfl) dX8_build_35 ?_
  refine j_nmI (fun I9 eI9 => ?_)
  have h := h I9 eI9
  refine j_aload_n E dX8_build_38 1 rfl ?_
  obtain ⟨b10, eb10, kb10, lb10⟩ := sh_f hZ kv1 (j := 2) (k := 14) (m := 24) rfl
  have h := h b10 eb10
  refine j_getrN E 9 2 rfl rfl (by decide) (by decide) (iw iT_9) rfl rfl (nw_9_2_X8_62) kv1 eb10 dX8_build_39 ?_
  refine j_iconst E (v := 0) dX8_build_42 (by decide) ?_
  refine j_aload_n E dX8_build_43 0 rfl ?_
  obtain ⟨b11, eb11, kb11, lb11⟩ := sh_f hZ kv0 (j := 2) (k := 14) (m := 24) rfl
  have h := h b11 eb11
  refine j_getr E 8 2 rfl rfl (by decide) (by decide) (iw iT_8) rfl rfl (tw W_258) kv0 eb11 dX8_build_44 ?_
  refine j_iconst E (v := 0) dX8_build_47 (by decide) ?_
  refine j_bipush E (v := 24) dX8_build_48 (by decide) ?_
  obtain ⟨o12, h⟩ := h
  refine j_copyi E (tw W_367) (tw W_11) (tw W_12) (tw W_13) kb10 kb11 o12.1 o12.2.1 o12.2.2.1 (by rw [lb10]; exact o12.2.2.2.1) (by rw [lb11]; exact o12.2.2.2.2) (Nat.le_of_ble_eq_true rfl) (Nat.le_of_ble_eq_true rfl) dX8_build_50 ?_
  refine j_nmI (fun I13 eI13 => ?_)
  have h := h I13 eI13
  refine j_aload_n E dX8_build_53 1 rfl ?_
  obtain ⟨b14, eb14, kb14, lb14⟩ := sh_f hZ kv1 (j := 3) (k := 14) (m := 24) rfl
  have h := h b14 eb14
  refine j_getrN E 9 3 rfl rfl (by decide) (by decide) (iw iT_9) rfl rfl (nw_9_3_X8_63) kv1 eb14 dX8_build_54 ?_
  refine j_iconst E (v := 0) dX8_build_57 (by decide) ?_
  refine j_aload_n E dX8_build_58 0 rfl ?_
  obtain ⟨b15, eb15, kb15, lb15⟩ := sh_f hZ kv0 (j := 3) (k := 14) (m := 24) rfl
  have h := h b15 eb15
  refine j_getr E 8 3 rfl rfl (by decide) (by decide) (iw iT_8) rfl rfl (tw W_261) kv0 eb15 dX8_build_59 ?_
  refine j_iconst E (v := 0) dX8_build_62 (by decide) ?_
  refine j_bipush E (v := 24) dX8_build_63 (by decide) ?_
  obtain ⟨o16, h⟩ := h
  refine j_copyi E (tw W_367) (tw W_11) (tw W_12) (tw W_13) kb14 kb15 o16.1 o16.2.1 o16.2.2.1 (by rw [lb14]; exact o16.2.2.2.1) (by rw [lb15]; exact o16.2.2.2.2) (Nat.le_of_ble_eq_true rfl) (Nat.le_of_ble_eq_true rfl) dX8_build_65 ?_
  refine j_nmI (fun I17 eI17 => ?_)
  have h := h I17 eI17
  refine j_aload_n E dX8_build_68 0 rfl ?_
  obtain ⟨b18, eb18, kb18⟩ := sh_o hZ kv0 (j := 4) (k := 4) rfl
  have h := h b18 eb18
  refine j_getr E 8 4 rfl rfl (by decide) (by decide) (iw iT_8) rfl rfl (tw W_262) kv0 eb18 dX8_build_69 ?_
  refine j_aload_n E dX8_build_72 1 rfl ?_
  obtain ⟨b19, eb19, kb19, lb19⟩ := sh_f hZ kv1 (j := 4) (k := 14) (m := 24) rfl
  have h := h b19 eb19
  refine j_getrN E 9 4 rfl rfl (by decide) (by decide) (iw iT_9) rfl rfl (nw_9_4_X8_64) kv1 eb19 dX8_build_73 ?_
  refine j_aload_n E dX8_build_76 0 rfl ?_
  refine j_geti E 8 9 rfl rfl (by decide) (by decide) (iw iT_8) rfl rfl (tw W_250) kv0 dX8_build_77 ?_
  refine j_callV E [.ref b19, .int (I17 v0 9)] [] (c_X4_deal (gL G) (gD G) (gY G) b18 b19 (I17 v0 9) Z I17 L _ hZ kb18 kb19 h) (gwV W_369 W_370 W_371 W_160 W_368) rfl ⟨rfl, fy_X4_deal⟩ ⟨by decide, by decide⟩ (c := 4) rfl (by decide) kb18 rfl rfl (Nat.le_of_ble_eq_true rfl) ⟨Nat.zero_le _, Nat.zero_le _⟩ dX8_build_80 (fun v20 Z21 I22 L23 q24 => ?_)
  obtain ⟨rfl, rfl, h⟩ := q24
  show jJ G 2 83 [(0, .ref v0), (1, .ref v1)] [] Z I22 L23 0 0
  exact j_return E ⟨rfl, rfl, h⟩ (Nat.zero_le _) (Nat.zero_le _) dX8_build_83
set_option maxRecDepth 100000 in
def f_X8_sumOfAsks_L4  (Z : jZ) (Q : Int32 → jI → jL → Prop) : Nat → Nat → Int32 → Int32 → jI → jL → Prop
  | 0 => fun _ _ _ _ _ => False
  | n + 1 => fun v0 v1 v2 I L => (((I v0 9) ≤ v2 → Q v1 I L) ∧ (¬ ((I v0 9) ≤ v2) → (∀ b2 : Nat, jr Z v0 2 = some b2 → (vp_in v2 24 ∧ (∀ x4 : Int32, x4 = (v1 + (I b2 v2.toNatClampNeg)) → (∀ x5 : Int32, x5 = v2 + 1 → (f_X8_sumOfAsks_L4 Z Q n) v0 x4 x5 I L))))))
set_option maxHeartbeats 4000000 in
set_option maxRecDepth 100000 in
theorem m_X8_sumOfAsks_L4 {G : jG} {Z : jZ} {Q : Int32 → jI → jL → Prop} (E : jE G cX8_sumOfAsks RX8 w_X8_sumOfAsks 3 (some .int) { frames := 0, cells := 0, slots := 0, locals := 0 } (rtI Z Q)) (hZ : SH Z)  : ∀ (n : Nat) (v0 : Nat) (v1 : Int32) (v2 : Int32) (I : jI) (L : jL), jk Z v0 8 → f_X8_sumOfAsks_L4  Z Q n v0 v1 v2 I L → jJ G 3 4 [(0, .ref v0), (1, .int v1), (2, .int v2)] [] Z I L 0 0 := by
  intro n
  induction n with
  | zero => intro v0 v1 v2 I L _ h; exact h.elim
  | succ n ih =>
    intro v0 v1 v2 I L kv0 h
    have h : (((I v0 9) ≤ v2 → Q v1 I L) ∧ (¬ ((I v0 9) ≤ v2) → (∀ b2 : Nat, jr Z v0 2 = some b2 → (vp_in v2 24 ∧ (∀ x4 : Int32, x4 = (v1 + (I b2 v2.toNatClampNeg)) → (∀ x5 : Int32, x5 = v2 + 1 → (f_X8_sumOfAsks_L4 Z Q n) v0 x4 x5 I L)))))) := h
    obtain ⟨K4, eK4⟩ : ∃ K : Nat → Int32 → Int32 → jI → jL → Prop, K = f_X8_sumOfAsks_L4  Z Q n := ⟨_, rfl⟩
    have hK4 := ih
    clear eK4 K4
    generalize f_X8_sumOfAsks_L4  Z Q n = K4 at hK4 h
    refine j_iload_n E dX8_sumOfAsks_4 2 rfl ?_
    refine j_aload_n E dX8_sumOfAsks_5 0 rfl ?_
    refine j_geti E 8 9 rfl rfl (by decide) (by decide) (iw iT_8) rfl rfl (tw W_250) kv0 dX8_sumOfAsks_6 ?_
    refine j_icmp_ge E 27 dX8_sumOfAsks_9 (by decide) (fun c1 => ?_) (fun c1 => ?_)
    · have h := h.1 c1
      refine j_iload_n E dX8_sumOfAsks_27 1 rfl ?_
      exact j_ireturn E ⟨rfl, _, rfl, h⟩ (Nat.zero_le _) (Nat.zero_le _) dX8_sumOfAsks_28
    · have h := h.2 c1
      refine j_iload_n E dX8_sumOfAsks_12 1 rfl ?_
      refine j_aload_n E dX8_sumOfAsks_13 0 rfl ?_
      obtain ⟨b2, eb2, kb2, lb2⟩ := sh_f hZ kv0 (j := 2) (k := 14) (m := 24) rfl
      have h := h b2 eb2
      refine j_getr E 8 2 rfl rfl (by decide) (by decide) (iw iT_8) rfl rfl (tw W_258) kv0 eb2 dX8_sumOfAsks_14 ?_
      refine j_iload_n E dX8_sumOfAsks_17 2 rfl ?_
      obtain ⟨o3, h⟩ := h
      refine j_iald E kb2 (by rw [lb2]; exact o3) dX8_sumOfAsks_18 ?_
      refine j_iadd E dX8_sumOfAsks_19 ?_
      refine j_topi (fun x4 ex4 => ?_)
      have h := h x4 ex4
      refine j_istore_n E 1 [(1, .int x4), (0, .ref v0), (2, .int v2)] dX8_sumOfAsks_20 rfl (by decide) rfl ?_
      obtain ⟨x5, ex5⟩ : ∃ y : Int32, y = v2 + 1 := ⟨_, rfl⟩
      have h := h x5 ex5
      refine j_iinc E x5 [(2, .int x5), (1, .int x4), (0, .ref v0)] dX8_sumOfAsks_21 2 rfl (by rw [ex5]; rfl) (by decide) rfl ?_
      refine j_goto E 4 dX8_sumOfAsks_24 (by decide) ?_
      refine j_sub [2, 1, 0] rfl ?_
      exact hK4 v0 x4 x5 I L kv0 h
set_option maxRecDepth 100000 in
def f_X8_sumOfAsks (v0 : Nat) (Z : jZ) (I : jI) (L : jL) (Q : Int32 → jI → jL → Prop) : Prop := (∃ m4 : Nat, f_X8_sumOfAsks_L4  Z Q m4 v0 (0 : Int32) (0 : Int32) I L)
set_option maxHeartbeats 4000000 in
set_option maxRecDepth 100000 in
theorem c_X8_sumOfAsks (l : Launch) (D : va_G) (cy : jC) (v0 : Nat) (Z : jZ) (I : jI) (L : jL) (Q : Int32 → jI → jL → Prop) (hZ : SH Z) (kv0 : jk Z v0 8) (h : f_X8_sumOfAsks v0 Z I L Q) : jCt l yX8_sumOfAsks w_X8_sumOfAsks { frames := 0, cells := 0, slots := 0, locals := 0 } D cy [.ref v0] Z I L (rtI Z Q) := by
  refine jCt_of (cc := cX8_sumOfAsks) (maxL := 3) (ret := (some .int)) (by decide +kernel) rfl (Nat.le_of_ble_eq_true rfl) ?_
  intro G eD eY eL E
  subst eD; subst eY; subst eL
  have E : jE G cX8_sumOfAsks RX8 w_X8_sumOfAsks 3 (some .int) { frames := 0, cells := 0, slots := 0, locals := 0 } (rtI Z Q) := E
  show jJ G 3 0 [(0, .ref v0)] [] Z I L 0 0
  refine j_iconst E (v := 0) dX8_sumOfAsks_0 (by decide) ?_
  refine j_istore_n E 1 [(1, .int (0 : Int32)), (0, .ref v0)] dX8_sumOfAsks_1 rfl (by decide) rfl ?_
  refine j_iconst E (v := 0) dX8_sumOfAsks_2 (by decide) ?_
  refine j_istore_n E 2 [(2, .int (0 : Int32)), (1, .int (0 : Int32)), (0, .ref v0)] dX8_sumOfAsks_3 rfl (by decide) rfl ?_
  obtain ⟨n6, h⟩ := h
  refine j_sub [2, 1, 0] rfl ?_
  exact m_X8_sumOfAsks_L4 E hZ  n6 v0 (0 : Int32) (0 : Int32) I L kv0 h
set_option maxRecDepth 100000 in
def f_X8_quarrel_b83  (Z : jZ) (Q : jI → jL → Prop) (s0 : Nat) (s1 : Int32) (s2 : Int32) (I : jI) (L : jL) : Prop := (vp_in s1 (jlen Z s0) ∧ (∀ I2 : jI, I2 = jpI I s0 s1.toNatClampNeg s2 → Q I2 L))
set_option maxHeartbeats 4000000 in
set_option maxRecDepth 100000 in
theorem m_X8_quarrel_b83 {G : jG} {Z : jZ} {Q : jI → jL → Prop} (E : jE G cX8_quarrel RX8 w_X8_quarrel 4 none { frames := 1, cells := 0, slots := 0, locals := 20 } (rtV Z Q)) (hZ : SH Z)  (s0 : Nat) (s1 : Int32) (s2 : Int32) (I : jI) (L : jL) (ks0 : jk Z s0 14) (h : f_X8_quarrel_b83  Z Q s0 s1 s2 I L) : jJ G 4 83 [] [.int s2, .int s1, .ref s0] Z I L 0 0 := by
  obtain ⟨o1, h⟩ := h
  refine j_iast E ks0 o1 dX8_quarrel_83 ?_
  refine j_nmI (fun I2 eI2 => ?_)
  have h := h I2 eI2
  exact j_return E ⟨rfl, rfl, h⟩ (Nat.zero_le _) (Nat.zero_le _) dX8_quarrel_84
set_option maxRecDepth 100000 in
def f_X8_quarrel_b48  (Z : jZ) (Q : jI → jL → Prop) (v0 : Nat) (v1 : Int32) (v2 : Int32) (v3 : Int32) (s0 : Nat) (s1 : Int32) (s2 : Int32) (I : jI) (L : jL) : Prop := (vp_in s1 (jlen Z s0) ∧ (∀ I4 : jI, I4 = jpI I s0 s1.toNatClampNeg s2 → (∀ b5 : Nat, jr Z v0 5 = some b5 → ((v3 = 0 → (∀ b7 : Nat, jr Z v0 5 = some b7 → (vp_in v2 8 ∧ f_X8_quarrel_b83  Z Q b5 v2 ((I4 b7 v2.toNatClampNeg) &&& (((1 : Int32) <<< (v1 &&& 31)) ^^^ (-1 : Int32))) I4 L))) ∧ (¬ (v3 = 0) → (∀ b9 : Nat, jr Z v0 5 = some b9 → (vp_in v2 8 ∧ f_X8_quarrel_b83  Z Q b5 v2 ((I4 b9 v2.toNatClampNeg) ||| ((1 : Int32) <<< (v1 &&& 31))) I4 L)))))))
set_option maxHeartbeats 4000000 in
set_option maxRecDepth 100000 in
theorem m_X8_quarrel_b48 {G : jG} {Z : jZ} {Q : jI → jL → Prop} (E : jE G cX8_quarrel RX8 w_X8_quarrel 4 none { frames := 1, cells := 0, slots := 0, locals := 20 } (rtV Z Q)) (hZ : SH Z)  (v0 : Nat) (v1 : Int32) (v2 : Int32) (v3 : Int32) (s0 : Nat) (s1 : Int32) (s2 : Int32) (I : jI) (L : jL) (kv0 : jk Z v0 8) (ks0 : jk Z s0 14) (h : f_X8_quarrel_b48  Z Q v0 v1 v2 v3 s0 s1 s2 I L) : jJ G 4 48 [(0, .ref v0), (1, .int v1), (2, .int v2), (3, .int v3)] [.int s2, .int s1, .ref s0] Z I L 0 0 := by
  obtain ⟨o3, h⟩ := h
  refine j_iast E ks0 o3 dX8_quarrel_48 ?_
  refine j_nmI (fun I4 eI4 => ?_)
  have h := h I4 eI4
  refine j_aload_n E dX8_quarrel_49 0 rfl ?_
  obtain ⟨b5, eb5, kb5, lb5⟩ := sh_f hZ kv0 (j := 5) (k := 14) (m := 8) rfl
  have h := h b5 eb5
  refine j_getr E 8 5 rfl rfl (by decide) (by decide) (iw iT_8) rfl rfl (tw W_251) kv0 eb5 dX8_quarrel_50 ?_
  refine j_iload_n E dX8_quarrel_53 2 rfl ?_
  refine j_iload_n E dX8_quarrel_54 3 rfl ?_
  refine j_if_eq E 71 dX8_quarrel_55 (by decide) (fun c6 => ?_) (fun c6 => ?_)
  · have h := h.1 c6
    refine j_aload_n E dX8_quarrel_71 0 rfl ?_
    obtain ⟨b7, eb7, kb7, lb7⟩ := sh_f hZ kv0 (j := 5) (k := 14) (m := 8) rfl
    have h := h b7 eb7
    refine j_getr E 8 5 rfl rfl (by decide) (by decide) (iw iT_8) rfl rfl (tw W_251) kv0 eb7 dX8_quarrel_72 ?_
    refine j_iload_n E dX8_quarrel_75 2 rfl ?_
    obtain ⟨o8, h⟩ := h
    refine j_iald E kb7 (by rw [lb7]; exact o8) dX8_quarrel_76 ?_
    refine j_iconst E (v := 1) dX8_quarrel_77 (by decide) ?_
    refine j_iload_n E dX8_quarrel_78 1 rfl ?_
    refine j_ishl E dX8_quarrel_79 ?_
    refine j_iconst E (v := -1) dX8_quarrel_80 (by decide) ?_
    refine j_ixor E dX8_quarrel_81 ?_
    refine j_iand E dX8_quarrel_82 ?_
    refine j_sub [] rfl ?_
    exact m_X8_quarrel_b83 E hZ  b5 v2 ((I4 b7 v2.toNatClampNeg) &&& (((1 : Int32) <<< (v1 &&& 31)) ^^^ (-1 : Int32))) I4 L kb5 h
  · have h := h.2 c6
    refine j_aload_n E dX8_quarrel_58 0 rfl ?_
    obtain ⟨b9, eb9, kb9, lb9⟩ := sh_f hZ kv0 (j := 5) (k := 14) (m := 8) rfl
    have h := h b9 eb9
    refine j_getr E 8 5 rfl rfl (by decide) (by decide) (iw iT_8) rfl rfl (tw W_251) kv0 eb9 dX8_quarrel_59 ?_
    refine j_iload_n E dX8_quarrel_62 2 rfl ?_
    obtain ⟨o10, h⟩ := h
    refine j_iald E kb9 (by rw [lb9]; exact o10) dX8_quarrel_63 ?_
    refine j_iconst E (v := 1) dX8_quarrel_64 (by decide) ?_
    refine j_iload_n E dX8_quarrel_65 1 rfl ?_
    refine j_ishl E dX8_quarrel_66 ?_
    refine j_ior E dX8_quarrel_67 ?_
    refine j_goto E 83 dX8_quarrel_68 (by decide) ?_
    refine j_sub [] rfl ?_
    exact m_X8_quarrel_b83 E hZ  b5 v2 ((I4 b9 v2.toNatClampNeg) ||| ((1 : Int32) <<< (v1 &&& 31))) I4 L kb5 h
set_option maxRecDepth 100000 in
def f_X8_quarrel (v0 : Nat) (v1 : Int32) (v2 : Int32) (v3 : Int32) (Z : jZ) (I : jI) (L : jL) (Q : jI → jL → Prop) : Prop := (f_X11_isFamily v1 Z I L (fun r17 I13 L14 => ((r17 = 0 → Q I13 L14) ∧ (¬ (r17 = 0) → (f_X11_isFamily v2 Z I13 L14 (fun r25 I21 L22 => ((r25 = 0 → Q I21 L22) ∧ (¬ (r25 = 0) → (∀ b27 : Nat, jr Z v0 5 = some b27 → ((v3 = 0 → (∀ b29 : Nat, jr Z v0 5 = some b29 → (vp_in v1 8 ∧ f_X8_quarrel_b48  Z Q v0 v1 v2 v3 b27 v1 ((I21 b29 v1.toNatClampNeg) &&& (((1 : Int32) <<< (v2 &&& 31)) ^^^ (-1 : Int32))) I21 L22))) ∧ (¬ (v3 = 0) → (∀ b31 : Nat, jr Z v0 5 = some b31 → (vp_in v1 8 ∧ f_X8_quarrel_b48  Z Q v0 v1 v2 v3 b27 v1 ((I21 b31 v1.toNatClampNeg) ||| ((1 : Int32) <<< (v2 &&& 31))) I21 L22)))))))))))))
set_option maxHeartbeats 4000000 in
set_option maxRecDepth 100000 in
theorem c_X8_quarrel (l : Launch) (D : va_G) (cy : jC) (v0 : Nat) (v1 : Int32) (v2 : Int32) (v3 : Int32) (Z : jZ) (I : jI) (L : jL) (Q : jI → jL → Prop) (hZ : SH Z) (kv0 : jk Z v0 8) (h : f_X8_quarrel v0 v1 v2 v3 Z I L Q) : jCt l yX8_quarrel w_X8_quarrel { frames := 1, cells := 0, slots := 0, locals := 20 } D cy [.ref v0, .int v1, .int v2, .int v3] Z I L (rtV Z Q) := by
  refine jCt_of (cc := cX8_quarrel) (maxL := 4) (ret := none) (by decide +kernel) rfl (Nat.le_of_ble_eq_true rfl) ?_
  intro G eD eY eL E
  subst eD; subst eY; subst eL
  have E : jE G cX8_quarrel RX8 w_X8_quarrel 4 none { frames := 1, cells := 0, slots := 0, locals := 20 } (rtV Z Q) := E
  show jJ G 4 0 [(0, .ref v0), (1, .int v1), (2, .int v2), (3, .int v3)] [] Z I L 0 0
  refine j_iload_n E dX8_quarrel_0 1 rfl ?_
  refine j_callSN E [.int v1] [] (c_X11_isFamily (gL G) (gD G) (gY G) v1 Z I L _ hZ  h) (gwN W_219) rfl (nm_X11_isFamily_X8_71) (tw W_40) (tw W_220) fy_X11_isFamily ⟨by decide, by decide⟩ rfl rfl (Nat.le_of_ble_eq_true rfl) ⟨Nat.zero_le _, Nat.zero_le _⟩ dX8_quarrel_1 (fun v11 Z12 I13 L14 q15 => ?_)
  obtain ⟨rfl, r17, rfl, zr17, h⟩ := q15
  show jJ G 4 4 [(0, .ref v0), (1, .int v1), (2, .int v2), (3, .int v3)] [.int r17] Z I13 L14 0 0
  refine j_if_eq E 84 dX8_quarrel_4 (by decide) (fun c18 => ?_) (fun c18 => ?_)
  · have h := h.1 c18
    exact j_return E ⟨rfl, rfl, h⟩ (Nat.zero_le _) (Nat.zero_le _) dX8_quarrel_84
  · have h := h.2 c18
    refine j_iload_n E dX8_quarrel_7 2 rfl ?_
    refine j_callSN E [.int v2] [] (c_X11_isFamily (gL G) (gD G) (gY G) v2 Z I13 L14 _ hZ  h) (gwN W_219) rfl (nm_X11_isFamily_X8_71) (tw W_40) (tw W_220) fy_X11_isFamily ⟨by decide, by decide⟩ rfl rfl (Nat.le_of_ble_eq_true rfl) ⟨Nat.zero_le _, Nat.zero_le _⟩ dX8_quarrel_8 (fun v19 Z20 I21 L22 q23 => ?_)
    obtain ⟨rfl, r25, rfl, zr25, h⟩ := q23
    show jJ G 4 11 [(0, .ref v0), (1, .int v1), (2, .int v2), (3, .int v3)] [.int r25] Z I21 L22 0 0
    refine j_if_eq E 84 dX8_quarrel_11 (by decide) (fun c26 => ?_) (fun c26 => ?_)
    · have h := h.1 c26
      exact j_return E ⟨rfl, rfl, h⟩ (Nat.zero_le _) (Nat.zero_le _) dX8_quarrel_84
    · have h := h.2 c26
      refine j_aload_n E dX8_quarrel_14 0 rfl ?_
      obtain ⟨b27, eb27, kb27, lb27⟩ := sh_f hZ kv0 (j := 5) (k := 14) (m := 8) rfl
      have h := h b27 eb27
      refine j_getr E 8 5 rfl rfl (by decide) (by decide) (iw iT_8) rfl rfl (tw W_251) kv0 eb27 dX8_quarrel_15 ?_
      refine j_iload_n E dX8_quarrel_18 1 rfl ?_
      refine j_iload_n E dX8_quarrel_19 3 rfl ?_
      refine j_if_eq E 36 dX8_quarrel_20 (by decide) (fun c28 => ?_) (fun c28 => ?_)
      · have h := h.1 c28
        refine j_aload_n E dX8_quarrel_36 0 rfl ?_
        obtain ⟨b29, eb29, kb29, lb29⟩ := sh_f hZ kv0 (j := 5) (k := 14) (m := 8) rfl
        have h := h b29 eb29
        refine j_getr E 8 5 rfl rfl (by decide) (by decide) (iw iT_8) rfl rfl (tw W_251) kv0 eb29 dX8_quarrel_37 ?_
        refine j_iload_n E dX8_quarrel_40 1 rfl ?_
        obtain ⟨o30, h⟩ := h
        refine j_iald E kb29 (by rw [lb29]; exact o30) dX8_quarrel_41 ?_
        refine j_iconst E (v := 1) dX8_quarrel_42 (by decide) ?_
        refine j_iload_n E dX8_quarrel_43 2 rfl ?_
        refine j_ishl E dX8_quarrel_44 ?_
        refine j_iconst E (v := -1) dX8_quarrel_45 (by decide) ?_
        refine j_ixor E dX8_quarrel_46 ?_
        refine j_iand E dX8_quarrel_47 ?_
        refine j_sub [0, 1, 2, 3] rfl ?_
        exact m_X8_quarrel_b48 E hZ  v0 v1 v2 v3 b27 v1 ((I21 b29 v1.toNatClampNeg) &&& (((1 : Int32) <<< (v2 &&& 31)) ^^^ (-1 : Int32))) I21 L22 kv0 kb27 h
      · have h := h.2 c28
        refine j_aload_n E dX8_quarrel_23 0 rfl ?_
        obtain ⟨b31, eb31, kb31, lb31⟩ := sh_f hZ kv0 (j := 5) (k := 14) (m := 8) rfl
        have h := h b31 eb31
        refine j_getr E 8 5 rfl rfl (by decide) (by decide) (iw iT_8) rfl rfl (tw W_251) kv0 eb31 dX8_quarrel_24 ?_
        refine j_iload_n E dX8_quarrel_27 1 rfl ?_
        obtain ⟨o32, h⟩ := h
        refine j_iald E kb31 (by rw [lb31]; exact o32) dX8_quarrel_28 ?_
        refine j_iconst E (v := 1) dX8_quarrel_29 (by decide) ?_
        refine j_iload_n E dX8_quarrel_30 2 rfl ?_
        refine j_ishl E dX8_quarrel_31 ?_
        refine j_ior E dX8_quarrel_32 ?_
        refine j_goto E 48 dX8_quarrel_33 (by decide) ?_
        refine j_sub [0, 1, 2, 3] rfl ?_
        exact m_X8_quarrel_b48 E hZ  v0 v1 v2 v3 b27 v1 ((I21 b31 v1.toNatClampNeg) ||| ((1 : Int32) <<< (v2 &&& 31))) I21 L22 kv0 kb27 h
set_option maxRecDepth 100000 in
def f_X8_sumOfFeuds_L4  (Z : jZ) (Q : Int32 → jI → jL → Prop) : Nat → Nat → Int32 → Int32 → jI → jL → Prop
  | 0 => fun _ _ _ _ _ => False
  | n + 1 => fun v0 v1 v2 I L => (((8 : Int32) ≤ v2 → Q (v1 / (2 : Int32)) I L) ∧ (¬ ((8 : Int32) ≤ v2) → (∀ b2 : Nat, jr Z v0 5 = some b2 → (vp_in v2 8 ∧ (f_J6_bitCount_0f7a4 (I b2 v2.toNatClampNeg) Z I L (fun r10 I6 L7 => (∀ x11 : Int32, x11 = (v1 + r10) → (∀ x12 : Int32, x12 = v2 + 1 → (f_X8_sumOfFeuds_L4 Z Q n) v0 x11 x12 I6 L7))))))))
set_option maxHeartbeats 4000000 in
set_option maxRecDepth 100000 in
theorem m_X8_sumOfFeuds_L4 {G : jG} {Z : jZ} {Q : Int32 → jI → jL → Prop} (E : jE G cX8_sumOfFeuds RX8 w_X8_sumOfFeuds 3 (some .int) { frames := 1, cells := 0, slots := 0, locals := 20 } (rtI Z Q)) (hZ : SH Z)  : ∀ (n : Nat) (v0 : Nat) (v1 : Int32) (v2 : Int32) (I : jI) (L : jL), jk Z v0 8 → f_X8_sumOfFeuds_L4  Z Q n v0 v1 v2 I L → jJ G 3 4 [(0, .ref v0), (1, .int v1), (2, .int v2)] [] Z I L 0 0 := by
  intro n
  induction n with
  | zero => intro v0 v1 v2 I L _ h; exact h.elim
  | succ n ih =>
    intro v0 v1 v2 I L kv0 h
    have h : (((8 : Int32) ≤ v2 → Q (v1 / (2 : Int32)) I L) ∧ (¬ ((8 : Int32) ≤ v2) → (∀ b2 : Nat, jr Z v0 5 = some b2 → (vp_in v2 8 ∧ (f_J6_bitCount_0f7a4 (I b2 v2.toNatClampNeg) Z I L (fun r10 I6 L7 => (∀ x11 : Int32, x11 = (v1 + r10) → (∀ x12 : Int32, x12 = v2 + 1 → (f_X8_sumOfFeuds_L4 Z Q n) v0 x11 x12 I6 L7)))))))) := h
    obtain ⟨K4, eK4⟩ : ∃ K : Nat → Int32 → Int32 → jI → jL → Prop, K = f_X8_sumOfFeuds_L4  Z Q n := ⟨_, rfl⟩
    have hK4 := ih
    clear eK4 K4
    generalize f_X8_sumOfFeuds_L4  Z Q n = K4 at hK4 h
    refine j_iload_n E dX8_sumOfFeuds_4 2 rfl ?_
    refine j_bipush E (v := 8) dX8_sumOfFeuds_5 (by decide) ?_
    refine j_icmp_ge E 28 dX8_sumOfFeuds_7 (by decide) (fun c1 => ?_) (fun c1 => ?_)
    · have h := h.1 c1
      refine j_iload_n E dX8_sumOfFeuds_28 1 rfl ?_
      refine j_iconst E (v := 2) dX8_sumOfFeuds_29 (by decide) ?_
      refine j_idiv E dX8_sumOfFeuds_30 (by decide) ?_
      exact j_ireturn E ⟨rfl, _, rfl, h⟩ (Nat.zero_le _) (Nat.zero_le _) dX8_sumOfFeuds_31
    · have h := h.2 c1
      refine j_iload_n E dX8_sumOfFeuds_10 1 rfl ?_
      refine j_aload_n E dX8_sumOfFeuds_11 0 rfl ?_
      obtain ⟨b2, eb2, kb2, lb2⟩ := sh_f hZ kv0 (j := 5) (k := 14) (m := 8) rfl
      have h := h b2 eb2
      refine j_getr E 8 5 rfl rfl (by decide) (by decide) (iw iT_8) rfl rfl (tw W_251) kv0 eb2 dX8_sumOfFeuds_12 ?_
      refine j_iload_n E dX8_sumOfFeuds_15 2 rfl ?_
      obtain ⟨o3, h⟩ := h
      refine j_iald E kb2 (by rw [lb2]; exact o3) dX8_sumOfFeuds_16 ?_
      refine j_callS E [.int (I b2 v2.toNatClampNeg)] [.int v1] (c_J6_bitCount_0f7a4 (gL G) (gD G) (gY G) (I b2 v2.toNatClampNeg) Z I L _ hZ  h) (gwS W_372 W_242 W_240 W_239) rfl fy_J6_bitCount_0f7a4 ⟨by decide, by decide⟩ rfl rfl (Nat.le_of_ble_eq_true rfl) ⟨Nat.zero_le _, Nat.zero_le _⟩ dX8_sumOfFeuds_17 (fun v4 Z5 I6 L7 q8 => ?_)
      obtain ⟨rfl, r10, rfl, h⟩ := q8
      show jJ G 3 20 [(0, .ref v0), (1, .int v1), (2, .int v2)] [.int r10, .int v1] Z I6 L7 0 0
      refine j_iadd E dX8_sumOfFeuds_20 ?_
      refine j_topi (fun x11 ex11 => ?_)
      have h := h x11 ex11
      refine j_istore_n E 1 [(1, .int x11), (0, .ref v0), (2, .int v2)] dX8_sumOfFeuds_21 rfl (by decide) rfl ?_
      obtain ⟨x12, ex12⟩ : ∃ y : Int32, y = v2 + 1 := ⟨_, rfl⟩
      have h := h x12 ex12
      refine j_iinc E x12 [(2, .int x12), (1, .int x11), (0, .ref v0)] dX8_sumOfFeuds_22 2 rfl (by rw [ex12]; rfl) (by decide) rfl ?_
      refine j_goto E 4 dX8_sumOfFeuds_25 (by decide) ?_
      refine j_sub [2, 1, 0] rfl ?_
      exact hK4 v0 x11 x12 I6 L7 kv0 h
set_option maxRecDepth 100000 in
def f_X8_sumOfFeuds (v0 : Nat) (Z : jZ) (I : jI) (L : jL) (Q : Int32 → jI → jL → Prop) : Prop := (∃ m4 : Nat, f_X8_sumOfFeuds_L4  Z Q m4 v0 (0 : Int32) (0 : Int32) I L)
set_option maxHeartbeats 4000000 in
set_option maxRecDepth 100000 in
theorem c_X8_sumOfFeuds (l : Launch) (D : va_G) (cy : jC) (v0 : Nat) (Z : jZ) (I : jI) (L : jL) (Q : Int32 → jI → jL → Prop) (hZ : SH Z) (kv0 : jk Z v0 8) (h : f_X8_sumOfFeuds v0 Z I L Q) : jCt l yX8_sumOfFeuds w_X8_sumOfFeuds { frames := 1, cells := 0, slots := 0, locals := 20 } D cy [.ref v0] Z I L (rtI Z Q) := by
  refine jCt_of (cc := cX8_sumOfFeuds) (maxL := 3) (ret := (some .int)) (by decide +kernel) rfl (Nat.le_of_ble_eq_true rfl) ?_
  intro G eD eY eL E
  subst eD; subst eY; subst eL
  have E : jE G cX8_sumOfFeuds RX8 w_X8_sumOfFeuds 3 (some .int) { frames := 1, cells := 0, slots := 0, locals := 20 } (rtI Z Q) := E
  show jJ G 3 0 [(0, .ref v0)] [] Z I L 0 0
  refine j_iconst E (v := 0) dX8_sumOfFeuds_0 (by decide) ?_
  refine j_istore_n E 1 [(1, .int (0 : Int32)), (0, .ref v0)] dX8_sumOfFeuds_1 rfl (by decide) rfl ?_
  refine j_iconst E (v := 0) dX8_sumOfFeuds_2 (by decide) ?_
  refine j_istore_n E 2 [(2, .int (0 : Int32)), (1, .int (0 : Int32)), (0, .ref v0)] dX8_sumOfFeuds_3 rfl (by decide) rfl ?_
  obtain ⟨n13, h⟩ := h
  refine j_sub [2, 1, 0] rfl ?_
  exact m_X8_sumOfFeuds_L4 E hZ  n13 v0 (0 : Int32) (0 : Int32) I L kv0 h
set_option maxRecDepth 100000 in
def f_X8_mindsFeud_b122 (K31 : Nat → Int32 → Int32 → Int32 → Int32 → jI → jL → Prop) (Z : jZ) (Q : Int32 → jI → jL → Prop) (v0 : Nat) (v1 : Int32) (v2 : Int32) (v3 : Int32) (v4 : Int32) (I : jI) (L : jL) : Prop := (∀ x1 : Int32, x1 = v4 + 1 → K31 v0 v1 v2 v3 x1 I L)
set_option maxHeartbeats 4000000 in
set_option maxRecDepth 100000 in
theorem m_X8_mindsFeud_b122 {G : jG} {Z : jZ} {Q : Int32 → jI → jL → Prop} (E : jE G cX8_mindsFeud RX8 w_X8_mindsFeud 8 (some .boolean) { frames := 2, cells := 0, slots := 0, locals := 41 } (rtZ Z Q)) (hZ : SH Z) (K31 : Nat → Int32 → Int32 → Int32 → Int32 → jI → jL → Prop) (hK31 : ∀ (v0 : Nat) (v1 : Int32) (v2 : Int32) (v3 : Int32) (v4 : Int32) (I : jI) (L : jL), jk Z v0 8 → K31 v0 v1 v2 v3 v4 I L → jJ G 8 31 [(0, .ref v0), (1, .int v1), (2, .int v2), (3, .int v3), (4, .int v4)] [] Z I L 0 0) (v0 : Nat) (v1 : Int32) (v2 : Int32) (v3 : Int32) (v4 : Int32) (I : jI) (L : jL) (kv0 : jk Z v0 8) (h : f_X8_mindsFeud_b122 K31 Z Q v0 v1 v2 v3 v4 I L) : jJ G 8 122 [(0, .ref v0), (1, .int v1), (2, .int v2), (3, .int v3), (4, .int v4)] [] Z I L 0 0 := by
  obtain ⟨x1, ex1⟩ : ∃ y : Int32, y = v4 + 1 := ⟨_, rfl⟩
  have h := h x1 ex1
  refine j_iinc E x1 [(4, .int x1), (0, .ref v0), (1, .int v1), (2, .int v2), (3, .int v3)] dX8_mindsFeud_122 4 rfl (by rw [ex1]; rfl) (by decide) rfl ?_
  refine j_goto E 31 dX8_mindsFeud_125 (by decide) ?_
  refine j_sub [1, 2, 3, 4, 0] rfl ?_
  exact hK31 v0 v1 v2 v3 x1 I L kv0 h
set_option maxRecDepth 100000 in
def f_X8_mindsFeud_b116 (K31 : Nat → Int32 → Int32 → Int32 → Int32 → jI → jL → Prop) (K50 : Nat → Int32 → Int32 → Int32 → Int32 → Int32 → jI → jL → Prop) (Z : jZ) (Q : Int32 → jI → jL → Prop) (v0 : Nat) (v1 : Int32) (v2 : Int32) (v3 : Int32) (v4 : Int32) (v5 : Int32) (I : jI) (L : jL) : Prop := (∀ x2 : Int32, x2 = v5 + 1 → K50 v0 v1 v2 v3 v4 x2 I L)
set_option maxHeartbeats 4000000 in
set_option maxRecDepth 100000 in
theorem m_X8_mindsFeud_b116 {G : jG} {Z : jZ} {Q : Int32 → jI → jL → Prop} (E : jE G cX8_mindsFeud RX8 w_X8_mindsFeud 8 (some .boolean) { frames := 2, cells := 0, slots := 0, locals := 41 } (rtZ Z Q)) (hZ : SH Z) (K31 : Nat → Int32 → Int32 → Int32 → Int32 → jI → jL → Prop) (hK31 : ∀ (v0 : Nat) (v1 : Int32) (v2 : Int32) (v3 : Int32) (v4 : Int32) (I : jI) (L : jL), jk Z v0 8 → K31 v0 v1 v2 v3 v4 I L → jJ G 8 31 [(0, .ref v0), (1, .int v1), (2, .int v2), (3, .int v3), (4, .int v4)] [] Z I L 0 0) (K50 : Nat → Int32 → Int32 → Int32 → Int32 → Int32 → jI → jL → Prop) (hK50 : ∀ (v0 : Nat) (v1 : Int32) (v2 : Int32) (v3 : Int32) (v4 : Int32) (v5 : Int32) (I : jI) (L : jL), jk Z v0 8 → K50 v0 v1 v2 v3 v4 v5 I L → jJ G 8 50 [(0, .ref v0), (1, .int v1), (2, .int v2), (3, .int v3), (4, .int v4), (5, .int v5)] [] Z I L 0 0) (v0 : Nat) (v1 : Int32) (v2 : Int32) (v3 : Int32) (v4 : Int32) (v5 : Int32) (I : jI) (L : jL) (kv0 : jk Z v0 8) (h : f_X8_mindsFeud_b116 K31 K50 Z Q v0 v1 v2 v3 v4 v5 I L) : jJ G 8 116 [(0, .ref v0), (1, .int v1), (2, .int v2), (3, .int v3), (4, .int v4), (5, .int v5)] [] Z I L 0 0 := by
  obtain ⟨x2, ex2⟩ : ∃ y : Int32, y = v5 + 1 := ⟨_, rfl⟩
  have h := h x2 ex2
  refine j_iinc E x2 [(5, .int x2), (0, .ref v0), (1, .int v1), (2, .int v2), (3, .int v3), (4, .int v4)] dX8_mindsFeud_116 5 rfl (by rw [ex2]; rfl) (by decide) rfl ?_
  refine j_goto E 50 dX8_mindsFeud_119 (by decide) ?_
  refine j_sub [1, 2, 3, 4, 5, 0] rfl ?_
  exact hK50 v0 v1 v2 v3 v4 x2 I L kv0 h
set_option maxRecDepth 100000 in
def f_X8_mindsFeud_b102 (K31 : Nat → Int32 → Int32 → Int32 → Int32 → jI → jL → Prop) (K50 : Nat → Int32 → Int32 → Int32 → Int32 → Int32 → jI → jL → Prop) (Z : jZ) (Q : Int32 → jI → jL → Prop) (v0 : Nat) (v1 : Int32) (v2 : Int32) (v3 : Int32) (v4 : Int32) (v5 : Int32) (v6 : Int32) (v7 : Int32) (I : jI) (L : jL) : Prop := ((¬ v6 = v2 → f_X8_mindsFeud_b116 K31 K50 Z Q v0 v1 v2 v3 v4 v5 I L) ∧ (v6 = v2 → ((¬ v7 = v1 → f_X8_mindsFeud_b116 K31 K50 Z Q v0 v1 v2 v3 v4 v5 I L) ∧ (v7 = v1 → Q (1 : Int32) I L))))
set_option maxHeartbeats 4000000 in
set_option maxRecDepth 100000 in
theorem m_X8_mindsFeud_b102 {G : jG} {Z : jZ} {Q : Int32 → jI → jL → Prop} (E : jE G cX8_mindsFeud RX8 w_X8_mindsFeud 8 (some .boolean) { frames := 2, cells := 0, slots := 0, locals := 41 } (rtZ Z Q)) (hZ : SH Z) (K31 : Nat → Int32 → Int32 → Int32 → Int32 → jI → jL → Prop) (hK31 : ∀ (v0 : Nat) (v1 : Int32) (v2 : Int32) (v3 : Int32) (v4 : Int32) (I : jI) (L : jL), jk Z v0 8 → K31 v0 v1 v2 v3 v4 I L → jJ G 8 31 [(0, .ref v0), (1, .int v1), (2, .int v2), (3, .int v3), (4, .int v4)] [] Z I L 0 0) (K50 : Nat → Int32 → Int32 → Int32 → Int32 → Int32 → jI → jL → Prop) (hK50 : ∀ (v0 : Nat) (v1 : Int32) (v2 : Int32) (v3 : Int32) (v4 : Int32) (v5 : Int32) (I : jI) (L : jL), jk Z v0 8 → K50 v0 v1 v2 v3 v4 v5 I L → jJ G 8 50 [(0, .ref v0), (1, .int v1), (2, .int v2), (3, .int v3), (4, .int v4), (5, .int v5)] [] Z I L 0 0) (v0 : Nat) (v1 : Int32) (v2 : Int32) (v3 : Int32) (v4 : Int32) (v5 : Int32) (v6 : Int32) (v7 : Int32) (I : jI) (L : jL) (kv0 : jk Z v0 8) (h : f_X8_mindsFeud_b102 K31 K50 Z Q v0 v1 v2 v3 v4 v5 v6 v7 I L) : jJ G 8 102 [(0, .ref v0), (1, .int v1), (2, .int v2), (3, .int v3), (4, .int v4), (5, .int v5), (6, .int v6), (7, .int v7)] [] Z I L 0 0 := by
  refine j_iload E dX8_mindsFeud_102 6 rfl ?_
  refine j_iload_n E dX8_mindsFeud_104 2 rfl ?_
  refine j_icmp_ne E 116 dX8_mindsFeud_105 (by decide) (fun c3 => ?_) (fun c3 => ?_)
  · have h := h.1 c3
    refine j_sub [0, 1, 2, 3, 4, 5] rfl ?_
    exact m_X8_mindsFeud_b116 E hZ K31 hK31 K50 hK50 v0 v1 v2 v3 v4 v5 I L kv0 h
  · have h := h.2 c3
    refine j_iload E dX8_mindsFeud_108 7 rfl ?_
    refine j_iload_n E dX8_mindsFeud_110 1 rfl ?_
    refine j_icmp_ne E 116 dX8_mindsFeud_111 (by decide) (fun c4 => ?_) (fun c4 => ?_)
    · have h := h.1 c4
      refine j_sub [0, 1, 2, 3, 4, 5] rfl ?_
      exact m_X8_mindsFeud_b116 E hZ K31 hK31 K50 hK50 v0 v1 v2 v3 v4 v5 I L kv0 h
    · have h := h.2 c4
      refine j_iconst E (v := 1) dX8_mindsFeud_114 (by decide) ?_
      exact j_zreturn E (Or.inr rfl) ⟨rfl, _, rfl, (Or.inr rfl), h⟩ (Nat.zero_le _) (Nat.zero_le _) dX8_mindsFeud_115
set_option maxRecDepth 100000 in
def f_X8_mindsFeud_L50 (K31 : Nat → Int32 → Int32 → Int32 → Int32 → jI → jL → Prop) (Z : jZ) (Q : Int32 → jI → jL → Prop) : Nat → Nat → Int32 → Int32 → Int32 → Int32 → Int32 → jI → jL → Prop
  | 0 => fun _ _ _ _ _ _ _ _ => False
  | n + 1 => fun v0 v1 v2 v3 v4 v5 I L => (((I v0 9) ≤ v5 → f_X8_mindsFeud_b122 K31 Z Q v0 v1 v2 v3 v4 I L) ∧ (¬ ((I v0 9) ≤ v5) → (((v4 + (3 : Int32)) < v5 → f_X8_mindsFeud_b122 K31 Z Q v0 v1 v2 v3 v4 I L) ∧ (¬ ((v4 + (3 : Int32)) < v5) → (∀ b7 : Nat, jr Z v0 4 = some b7 → (f_X4_mainOf b7 v4 Z I L (fun r14 I10 L11 => (∀ b15 : Nat, jr Z v0 4 = some b15 → (f_X4_mainOf b15 v5 Z I10 L11 (fun r22 I18 L19 => ((¬ r14 = v1 → f_X8_mindsFeud_b102 K31 (f_X8_mindsFeud_L50 K31 Z Q n) Z Q v0 v1 v2 v3 v4 v5 r14 r22 I18 L19) ∧ (r14 = v1 → ((r22 = v2 → Q (1 : Int32) I18 L19) ∧ (¬ (r22 = v2) → f_X8_mindsFeud_b102 K31 (f_X8_mindsFeud_L50 K31 Z Q n) Z Q v0 v1 v2 v3 v4 v5 r14 r22 I18 L19))))))))))))))
set_option maxHeartbeats 4000000 in
set_option maxRecDepth 100000 in
theorem m_X8_mindsFeud_L50 {G : jG} {Z : jZ} {Q : Int32 → jI → jL → Prop} (E : jE G cX8_mindsFeud RX8 w_X8_mindsFeud 8 (some .boolean) { frames := 2, cells := 0, slots := 0, locals := 41 } (rtZ Z Q)) (hZ : SH Z) (K31 : Nat → Int32 → Int32 → Int32 → Int32 → jI → jL → Prop) (hK31 : ∀ (v0 : Nat) (v1 : Int32) (v2 : Int32) (v3 : Int32) (v4 : Int32) (I : jI) (L : jL), jk Z v0 8 → K31 v0 v1 v2 v3 v4 I L → jJ G 8 31 [(0, .ref v0), (1, .int v1), (2, .int v2), (3, .int v3), (4, .int v4)] [] Z I L 0 0) : ∀ (n : Nat) (v0 : Nat) (v1 : Int32) (v2 : Int32) (v3 : Int32) (v4 : Int32) (v5 : Int32) (I : jI) (L : jL), jk Z v0 8 → f_X8_mindsFeud_L50 K31 Z Q n v0 v1 v2 v3 v4 v5 I L → jJ G 8 50 [(0, .ref v0), (1, .int v1), (2, .int v2), (3, .int v3), (4, .int v4), (5, .int v5)] [] Z I L 0 0 := by
  intro n
  induction n with
  | zero => intro v0 v1 v2 v3 v4 v5 I L _ h; exact h.elim
  | succ n ih =>
    intro v0 v1 v2 v3 v4 v5 I L kv0 h
    have h : (((I v0 9) ≤ v5 → f_X8_mindsFeud_b122 K31 Z Q v0 v1 v2 v3 v4 I L) ∧ (¬ ((I v0 9) ≤ v5) → (((v4 + (3 : Int32)) < v5 → f_X8_mindsFeud_b122 K31 Z Q v0 v1 v2 v3 v4 I L) ∧ (¬ ((v4 + (3 : Int32)) < v5) → (∀ b7 : Nat, jr Z v0 4 = some b7 → (f_X4_mainOf b7 v4 Z I L (fun r14 I10 L11 => (∀ b15 : Nat, jr Z v0 4 = some b15 → (f_X4_mainOf b15 v5 Z I10 L11 (fun r22 I18 L19 => ((¬ r14 = v1 → f_X8_mindsFeud_b102 K31 (f_X8_mindsFeud_L50 K31 Z Q n) Z Q v0 v1 v2 v3 v4 v5 r14 r22 I18 L19) ∧ (r14 = v1 → ((r22 = v2 → Q (1 : Int32) I18 L19) ∧ (¬ (r22 = v2) → f_X8_mindsFeud_b102 K31 (f_X8_mindsFeud_L50 K31 Z Q n) Z Q v0 v1 v2 v3 v4 v5 r14 r22 I18 L19)))))))))))))) := h
    obtain ⟨K50, eK50⟩ : ∃ K : Nat → Int32 → Int32 → Int32 → Int32 → Int32 → jI → jL → Prop, K = f_X8_mindsFeud_L50 K31 Z Q n := ⟨_, rfl⟩
    have hK50 := ih
    clear eK50 K50
    generalize f_X8_mindsFeud_L50 K31 Z Q n = K50 at hK50 h
    refine j_iload E dX8_mindsFeud_50 5 rfl ?_
    refine j_aload_n E dX8_mindsFeud_52 0 rfl ?_
    refine j_geti E 8 9 rfl rfl (by decide) (by decide) (iw iT_8) rfl rfl (tw W_250) kv0 dX8_mindsFeud_53 ?_
    refine j_icmp_ge E 122 dX8_mindsFeud_56 (by decide) (fun c5 => ?_) (fun c5 => ?_)
    · have h := h.1 c5
      refine j_sub [0, 1, 2, 3, 4] rfl ?_
      exact m_X8_mindsFeud_b122 E hZ K31 hK31 v0 v1 v2 v3 v4 I L kv0 h
    · have h := h.2 c5
      refine j_iload E dX8_mindsFeud_59 5 rfl ?_
      refine j_iload E dX8_mindsFeud_61 4 rfl ?_
      refine j_iconst E (v := 3) dX8_mindsFeud_63 (by decide) ?_
      refine j_iadd E dX8_mindsFeud_64 ?_
      refine j_icmp_gt E 122 dX8_mindsFeud_65 (by decide) (fun c6 => ?_) (fun c6 => ?_)
      · have h := h.1 c6
        refine j_sub [0, 1, 2, 3, 4] rfl ?_
        exact m_X8_mindsFeud_b122 E hZ K31 hK31 v0 v1 v2 v3 v4 I L kv0 h
      · have h := h.2 c6
        refine j_aload_n E dX8_mindsFeud_68 0 rfl ?_
        obtain ⟨b7, eb7, kb7⟩ := sh_o hZ kv0 (j := 4) (k := 4) rfl
        have h := h b7 eb7
        refine j_getr E 8 4 rfl rfl (by decide) (by decide) (iw iT_8) rfl rfl (tw W_262) kv0 eb7 dX8_mindsFeud_69 ?_
        refine j_iload E dX8_mindsFeud_72 4 rfl ?_
        refine j_callV E [.int v4] [] (c_X4_mainOf (gL G) (gD G) (gY G) b7 v4 Z I L _ hZ kb7 h) (gwV W_264 W_265 W_266 W_160 W_263) rfl ⟨rfl, fy_X4_mainOf⟩ ⟨by decide, by decide⟩ (c := 4) rfl (by decide) kb7 rfl rfl (Nat.le_of_ble_eq_true rfl) ⟨Nat.zero_le _, Nat.zero_le _⟩ dX8_mindsFeud_74 (fun v8 Z9 I10 L11 q12 => ?_)
        obtain ⟨rfl, r14, rfl, h⟩ := q12
        show jJ G 8 77 [(0, .ref v0), (1, .int v1), (2, .int v2), (3, .int v3), (4, .int v4), (5, .int v5)] [.int r14] Z I10 L11 0 0
        refine j_istore E 6 [(6, .int r14), (0, .ref v0), (1, .int v1), (2, .int v2), (3, .int v3), (4, .int v4), (5, .int v5)] dX8_mindsFeud_77 (by decide) rfl ?_
        refine j_aload_n E dX8_mindsFeud_79 1 rfl ?_
        obtain ⟨b15, eb15, kb15⟩ := sh_o hZ kv0 (j := 4) (k := 4) rfl
        have h := h b15 eb15
        refine j_getr E 8 4 rfl rfl (by decide) (by decide) (iw iT_8) rfl rfl (tw W_262) kv0 eb15 dX8_mindsFeud_80 ?_
        refine j_iload E dX8_mindsFeud_83 6 rfl ?_
        refine j_callV E [.int v5] [] (c_X4_mainOf (gL G) (gD G) (gY G) b15 v5 Z I10 L11 _ hZ kb15 h) (gwV W_264 W_265 W_266 W_160 W_263) rfl ⟨rfl, fy_X4_mainOf⟩ ⟨by decide, by decide⟩ (c := 4) rfl (by decide) kb15 rfl rfl (Nat.le_of_ble_eq_true rfl) ⟨Nat.zero_le _, Nat.zero_le _⟩ dX8_mindsFeud_85 (fun v16 Z17 I18 L19 q20 => ?_)
        obtain ⟨rfl, r22, rfl, h⟩ := q20
        show jJ G 8 88 [(6, .int r14), (0, .ref v0), (1, .int v1), (2, .int v2), (3, .int v3), (4, .int v4), (5, .int v5)] [.int r22] Z I18 L19 0 0
        refine j_istore E 7 [(7, .int r22), (6, .int r14), (0, .ref v0), (1, .int v1), (2, .int v2), (3, .int v3), (4, .int v4), (5, .int v5)] dX8_mindsFeud_88 (by decide) rfl ?_
        refine j_iload E dX8_mindsFeud_90 1 rfl ?_
        refine j_iload_n E dX8_mindsFeud_92 3 rfl ?_
        refine j_icmp_ne E 102 dX8_mindsFeud_93 (by decide) (fun c23 => ?_) (fun c23 => ?_)
        · have h := h.1 c23
          refine j_sub [2, 3, 4, 5, 6, 7, 1, 0] rfl ?_
          exact m_X8_mindsFeud_b102 E hZ K31 hK31 K50 hK50 v0 v1 v2 v3 v4 v5 r14 r22 I18 L19 kv0 h
        · have h := h.2 c23
          refine j_iload E dX8_mindsFeud_96 0 rfl ?_
          refine j_iload_n E dX8_mindsFeud_98 4 rfl ?_
          refine j_icmp_eq E 114 dX8_mindsFeud_99 (by decide) (fun c24 => ?_) (fun c24 => ?_)
          · have h := h.1 c24
            refine j_iconst E (v := 1) dX8_mindsFeud_114 (by decide) ?_
            exact j_zreturn E (Or.inr rfl) ⟨rfl, _, rfl, (Or.inr rfl), h⟩ (Nat.zero_le _) (Nat.zero_le _) dX8_mindsFeud_115
          · have h := h.2 c24
            refine j_sub [2, 3, 4, 5, 6, 7, 1, 0] rfl ?_
            exact m_X8_mindsFeud_b102 E hZ K31 hK31 K50 hK50 v0 v1 v2 v3 v4 v5 r14 r22 I18 L19 kv0 h
set_option maxRecDepth 100000 in
def f_X8_mindsFeud_L31  (Z : jZ) (Q : Int32 → jI → jL → Prop) : Nat → Nat → Int32 → Int32 → Int32 → Int32 → jI → jL → Prop
  | 0 => fun _ _ _ _ _ _ _ => False
  | n + 1 => fun v0 v1 v2 v3 v4 I L => (((I v0 9) ≤ v4 → Q (0 : Int32) I L) ∧ (¬ ((I v0 9) ≤ v4) → ((v3 = 0 → Q (0 : Int32) I L) ∧ (¬ (v3 = 0) → (∀ x27 : Int32, x27 = (v4 + (1 : Int32)) → (∃ m50 : Nat, f_X8_mindsFeud_L50 (f_X8_mindsFeud_L31 Z Q n) Z Q m50 v0 v1 v2 v3 v4 x27 I L))))))
set_option maxHeartbeats 4000000 in
set_option maxRecDepth 100000 in
theorem m_X8_mindsFeud_L31 {G : jG} {Z : jZ} {Q : Int32 → jI → jL → Prop} (E : jE G cX8_mindsFeud RX8 w_X8_mindsFeud 8 (some .boolean) { frames := 2, cells := 0, slots := 0, locals := 41 } (rtZ Z Q)) (hZ : SH Z)  : ∀ (n : Nat) (v0 : Nat) (v1 : Int32) (v2 : Int32) (v3 : Int32) (v4 : Int32) (I : jI) (L : jL), jk Z v0 8 → f_X8_mindsFeud_L31  Z Q n v0 v1 v2 v3 v4 I L → jJ G 8 31 [(0, .ref v0), (1, .int v1), (2, .int v2), (3, .int v3), (4, .int v4)] [] Z I L 0 0 := by
  intro n
  induction n with
  | zero => intro v0 v1 v2 v3 v4 I L _ h; exact h.elim
  | succ n ih =>
    intro v0 v1 v2 v3 v4 I L kv0 h
    have h : (((I v0 9) ≤ v4 → Q (0 : Int32) I L) ∧ (¬ ((I v0 9) ≤ v4) → ((v3 = 0 → Q (0 : Int32) I L) ∧ (¬ (v3 = 0) → (∀ x27 : Int32, x27 = (v4 + (1 : Int32)) → (∃ m50 : Nat, f_X8_mindsFeud_L50 (f_X8_mindsFeud_L31 Z Q n) Z Q m50 v0 v1 v2 v3 v4 x27 I L)))))) := h
    obtain ⟨K31, eK31⟩ : ∃ K : Nat → Int32 → Int32 → Int32 → Int32 → jI → jL → Prop, K = f_X8_mindsFeud_L31  Z Q n := ⟨_, rfl⟩
    have hK31 := ih
    clear eK31 K31
    generalize f_X8_mindsFeud_L31  Z Q n = K31 at hK31 h
    refine j_iload E dX8_mindsFeud_31 4 rfl ?_
    refine j_aload_n E dX8_mindsFeud_33 0 rfl ?_
    refine j_geti E 8 9 rfl rfl (by decide) (by decide) (iw iT_8) rfl rfl (tw W_250) kv0 dX8_mindsFeud_34 ?_
    refine j_icmp_ge E 128 dX8_mindsFeud_37 (by decide) (fun c25 => ?_) (fun c25 => ?_)
    · have h := h.1 c25
      refine j_iconst E (v := 0) dX8_mindsFeud_128 (by decide) ?_
      exact j_zreturn E (Or.inl rfl) ⟨rfl, _, rfl, (Or.inl rfl), h⟩ (Nat.zero_le _) (Nat.zero_le _) dX8_mindsFeud_129
    · have h := h.2 c25
      refine j_iload_n E dX8_mindsFeud_40 3 rfl ?_
      refine j_if_eq E 128 dX8_mindsFeud_41 (by decide) (fun c26 => ?_) (fun c26 => ?_)
      · have h := h.1 c26
        refine j_iconst E (v := 0) dX8_mindsFeud_128 (by decide) ?_
        exact j_zreturn E (Or.inl rfl) ⟨rfl, _, rfl, (Or.inl rfl), h⟩ (Nat.zero_le _) (Nat.zero_le _) dX8_mindsFeud_129
      · have h := h.2 c26
        refine j_iload E dX8_mindsFeud_44 4 rfl ?_
        refine j_iconst E (v := 1) dX8_mindsFeud_46 (by decide) ?_
        refine j_iadd E dX8_mindsFeud_47 ?_
        refine j_topi (fun x27 ex27 => ?_)
        have h := h x27 ex27
        refine j_istore E 5 [(5, .int x27), (0, .ref v0), (1, .int v1), (2, .int v2), (3, .int v3), (4, .int v4)] dX8_mindsFeud_48 (by decide) rfl ?_
        obtain ⟨n28, h⟩ := h
        refine j_sub [1, 2, 3, 4, 5, 0] rfl ?_
        exact m_X8_mindsFeud_L50 E hZ K31 hK31 n28 v0 v1 v2 v3 v4 x27 I L kv0 h
set_option maxRecDepth 100000 in
def f_X8_mindsFeud_b27  (Z : jZ) (Q : Int32 → jI → jL → Prop) (v0 : Nat) (v1 : Int32) (v2 : Int32) (s0 : Int32) (I : jI) (L : jL) : Prop := (∃ m31 : Nat, f_X8_mindsFeud_L31  Z Q m31 v0 v1 v2 s0 (0 : Int32) I L)
set_option maxHeartbeats 4000000 in
set_option maxRecDepth 100000 in
theorem m_X8_mindsFeud_b27 {G : jG} {Z : jZ} {Q : Int32 → jI → jL → Prop} (E : jE G cX8_mindsFeud RX8 w_X8_mindsFeud 8 (some .boolean) { frames := 2, cells := 0, slots := 0, locals := 41 } (rtZ Z Q)) (hZ : SH Z)  (v0 : Nat) (v1 : Int32) (v2 : Int32) (s0 : Int32) (I : jI) (L : jL) (kv0 : jk Z v0 8) (h : f_X8_mindsFeud_b27  Z Q v0 v1 v2 s0 I L) : jJ G 8 27 [(0, .ref v0), (1, .int v1), (2, .int v2)] [.int s0] Z I L 0 0 := by
  refine j_istore_n E 3 [(3, .int s0), (0, .ref v0), (1, .int v1), (2, .int v2)] dX8_mindsFeud_27 rfl (by decide) rfl ?_
  refine j_iconst E (v := 0) dX8_mindsFeud_28 (by decide) ?_
  refine j_istore E 4 [(4, .int (0 : Int32)), (3, .int s0), (0, .ref v0), (1, .int v1), (2, .int v2)] dX8_mindsFeud_29 (by decide) rfl ?_
  obtain ⟨n29, h⟩ := h
  refine j_sub [2, 3, 4, 1, 0] rfl ?_
  exact m_X8_mindsFeud_L31 E hZ  n29 v0 v1 v2 s0 (0 : Int32) I L kv0 h
set_option maxRecDepth 100000 in
def f_X8_mindsFeud_b22  (Z : jZ) (Q : Int32 → jI → jL → Prop) (v0 : Nat) (v1 : Int32) (v2 : Int32) (I : jI) (L : jL) : Prop := f_X8_mindsFeud_b27  Z Q v0 v1 v2 (1 : Int32) I L
set_option maxHeartbeats 4000000 in
set_option maxRecDepth 100000 in
theorem m_X8_mindsFeud_b22 {G : jG} {Z : jZ} {Q : Int32 → jI → jL → Prop} (E : jE G cX8_mindsFeud RX8 w_X8_mindsFeud 8 (some .boolean) { frames := 2, cells := 0, slots := 0, locals := 41 } (rtZ Z Q)) (hZ : SH Z)  (v0 : Nat) (v1 : Int32) (v2 : Int32) (I : jI) (L : jL) (kv0 : jk Z v0 8) (h : f_X8_mindsFeud_b22  Z Q v0 v1 v2 I L) : jJ G 8 22 [(0, .ref v0), (1, .int v1), (2, .int v2)] [] Z I L 0 0 := by
  refine j_iconst E (v := 1) dX8_mindsFeud_22 (by decide) ?_
  refine j_goto E 27 dX8_mindsFeud_23 (by decide) ?_
  refine j_sub [0, 1, 2] rfl ?_
  exact m_X8_mindsFeud_b27 E hZ  v0 v1 v2 (1 : Int32) I L kv0 h
set_option maxRecDepth 100000 in
def f_X8_mindsFeud (v0 : Nat) (v1 : Int32) (v2 : Int32) (Z : jZ) (I : jI) (L : jL) (Q : Int32 → jI → jL → Prop) : Prop := (∀ b30 : Nat, jr Z v0 6 = some b30 → (f_X3_names b30 (4 : Int32) Z I L (fun r37 I33 L34 => ((¬ r37 = 0 → f_X8_mindsFeud_b22  Z Q v0 v1 v2 I33 L34) ∧ (r37 = 0 → (∀ b39 : Nat, jr Z v0 7 = some b39 → (f_X3_names b39 (4 : Int32) Z I33 L34 (fun r46 I42 L43 => ((r46 = 0 → f_X8_mindsFeud_b27  Z Q v0 v1 v2 (0 : Int32) I42 L43) ∧ (¬ (r46 = 0) → f_X8_mindsFeud_b22  Z Q v0 v1 v2 I42 L43))))))))))
set_option maxHeartbeats 4000000 in
set_option maxRecDepth 100000 in
theorem c_X8_mindsFeud (l : Launch) (D : va_G) (cy : jC) (v0 : Nat) (v1 : Int32) (v2 : Int32) (Z : jZ) (I : jI) (L : jL) (Q : Int32 → jI → jL → Prop) (hZ : SH Z) (kv0 : jk Z v0 8) (h : f_X8_mindsFeud v0 v1 v2 Z I L Q) : jCt l yX8_mindsFeud w_X8_mindsFeud { frames := 2, cells := 0, slots := 0, locals := 41 } D cy [.ref v0, .int v1, .int v2] Z I L (rtZ Z Q) := by
  refine jCt_of (cc := cX8_mindsFeud) (maxL := 8) (ret := (some .boolean)) (by decide +kernel) rfl (Nat.le_of_ble_eq_true rfl) ?_
  intro G eD eY eL E
  subst eD; subst eY; subst eL
  have E : jE G cX8_mindsFeud RX8 w_X8_mindsFeud 8 (some .boolean) { frames := 2, cells := 0, slots := 0, locals := 41 } (rtZ Z Q) := E
  show jJ G 8 0 [(0, .ref v0), (1, .int v1), (2, .int v2)] [] Z I L 0 0
  refine j_aload_n E dX8_mindsFeud_0 0 rfl ?_
  obtain ⟨b30, eb30, kb30⟩ := sh_o hZ kv0 (j := 6) (k := 3) rfl
  have h := h b30 eb30
  refine j_getr E 8 6 rfl rfl (by decide) (by decide) (iw iT_8) rfl rfl (tw W_281) kv0 eb30 dX8_mindsFeud_1 ?_
  refine j_iconst E (v := 4) dX8_mindsFeud_4 (by decide) ?_
  refine j_callV E [.int (4 : Int32)] [] (c_X3_names (gL G) (gD G) (gY G) b30 (4 : Int32) Z I L _ hZ kb30 h) (gwV W_345 W_346 W_347 W_179 W_344) rfl ⟨rfl, fy_X3_names⟩ ⟨by decide, by decide⟩ (c := 3) rfl (by decide) kb30 rfl rfl (Nat.le_of_ble_eq_true rfl) ⟨Nat.zero_le _, Nat.zero_le _⟩ dX8_mindsFeud_5 (fun v31 Z32 I33 L34 q35 => ?_)
  obtain ⟨rfl, r37, rfl, zr37, h⟩ := q35
  show jJ G 8 8 [(0, .ref v0), (1, .int v1), (2, .int v2)] [.int r37] Z I33 L34 0 0
  refine j_if_ne E 22 dX8_mindsFeud_8 (by decide) (fun c38 => ?_) (fun c38 => ?_)
  · have h := h.1 c38
    refine j_sub [0, 1, 2] rfl ?_
    exact m_X8_mindsFeud_b22 E hZ  v0 v1 v2 I33 L34 kv0 h
  · have h := h.2 c38
    refine j_aload_n E dX8_mindsFeud_11 0 rfl ?_
    obtain ⟨b39, eb39, kb39⟩ := sh_o hZ kv0 (j := 7) (k := 3) rfl
    have h := h b39 eb39
    refine j_getr E 8 7 rfl rfl (by decide) (by decide) (iw iT_8) rfl rfl (tw W_280) kv0 eb39 dX8_mindsFeud_12 ?_
    refine j_iconst E (v := 4) dX8_mindsFeud_15 (by decide) ?_
    refine j_callV E [.int (4 : Int32)] [] (c_X3_names (gL G) (gD G) (gY G) b39 (4 : Int32) Z I33 L34 _ hZ kb39 h) (gwV W_345 W_346 W_347 W_179 W_344) rfl ⟨rfl, fy_X3_names⟩ ⟨by decide, by decide⟩ (c := 3) rfl (by decide) kb39 rfl rfl (Nat.le_of_ble_eq_true rfl) ⟨Nat.zero_le _, Nat.zero_le _⟩ dX8_mindsFeud_16 (fun v40 Z41 I42 L43 q44 => ?_)
    obtain ⟨rfl, r46, rfl, zr46, h⟩ := q44
    show jJ G 8 19 [(0, .ref v0), (1, .int v1), (2, .int v2)] [.int r46] Z I42 L43 0 0
    refine j_if_eq E 26 dX8_mindsFeud_19 (by decide) (fun c47 => ?_) (fun c47 => ?_)
    · have h := h.1 c47
      refine j_iconst E (v := 0) dX8_mindsFeud_26 (by decide) ?_
      refine j_sub [0, 1, 2] rfl ?_
      exact m_X8_mindsFeud_b27 E hZ  v0 v1 v2 (0 : Int32) I42 L43 kv0 h
    · have h := h.2 c47
      refine j_sub [0, 1, 2] rfl ?_
      exact m_X8_mindsFeud_b22 E hZ  v0 v1 v2 I42 L43 kv0 h
set_option maxRecDepth 100000 in
def f_X9_fail (v0 : Nat) (v1 : Int32) (Z : jZ) (I : jI) (L : jL) (Q : Int32 → jI → jL → Prop) : Prop := (∀ I1 : jI, I1 = jpI I v0 8 v1 → Q (0 : Int32) I1 L)
set_option maxHeartbeats 4000000 in
set_option maxRecDepth 100000 in
theorem c_X9_fail (l : Launch) (D : va_G) (cy : jC) (v0 : Nat) (v1 : Int32) (Z : jZ) (I : jI) (L : jL) (Q : Int32 → jI → jL → Prop) (hZ : SH Z) (kv0 : jk Z v0 9) (h : f_X9_fail v0 v1 Z I L Q) : jCt l yX9_fail w_X9_fail { frames := 0, cells := 0, slots := 0, locals := 0 } D cy [.ref v0, .int v1] Z I L (rtZ Z Q) := by
  refine jCt_of (cc := cX9_fail) (maxL := 2) (ret := (some .boolean)) (by decide +kernel) rfl (Nat.le_of_ble_eq_true rfl) ?_
  intro G eD eY eL E
  subst eD; subst eY; subst eL
  have E : jE G cX9_fail RX9 w_X9_fail 2 (some .boolean) { frames := 0, cells := 0, slots := 0, locals := 0 } (rtZ Z Q) := E
  show jJ G 2 0 [(0, .ref v0), (1, .int v1)] [] Z I L 0 0
  refine j_aload_n E dX9_fail_0 0 rfl ?_
  refine j_iload_n E dX9_fail_1 1 rfl ?_
  refine j_puti E 9 8 rfl rfl (by decide) (by decide) (iw iT_9) tyX9_ok nmX9 rfl rfl (tw W_373) rfl rfl rfl kv0 dX9_fail_2 ?_
  refine j_nmI (fun I1 eI1 => ?_)
  have h := h I1 eI1
  refine j_iconst E (v := 0) dX9_fail_5 (by decide) ?_
  exact j_zreturn E (Or.inl rfl) ⟨rfl, _, rfl, (Or.inl rfl), h⟩ (Nat.zero_le _) (Nat.zero_le _) dX9_fail_6
set_option maxRecDepth 100000 in
def f_X9_look (v0 : Nat) (v1 : Nat) (Z : jZ) (I : jI) (L : jL) (Q : Int32 → jI → jL → Prop) : Prop := (((I v0 7) ≤ (I v0 6) → Q (-1 : Int32) I L) ∧ (¬ ((I v0 7) ≤ (I v0 6)) → (f_X10_signAt v1 (I v0 6) Z I L (fun r8 I4 L5 => Q r8 I4 L5))))
set_option maxHeartbeats 4000000 in
set_option maxRecDepth 100000 in
theorem c_X9_look (l : Launch) (D : va_G) (cy : jC) (v0 : Nat) (v1 : Nat) (Z : jZ) (I : jI) (L : jL) (Q : Int32 → jI → jL → Prop) (hZ : SH Z) (kv0 : jk Z v0 9) (kv1 : jk Z v1 10) (h : f_X9_look v0 v1 Z I L Q) : jCt l yX9_look w_X9_look { frames := 1, cells := 0, slots := 0, locals := 21 } D cy [.ref v0, .ref v1] Z I L (rtI Z Q) := by
  refine jCt_of (cc := cX9_look) (maxL := 2) (ret := (some .int)) (by decide +kernel) rfl (Nat.le_of_ble_eq_true rfl) ?_
  intro G eD eY eL E
  subst eD; subst eY; subst eL
  have E : jE G cX9_look RX9 w_X9_look 2 (some .int) { frames := 1, cells := 0, slots := 0, locals := 21 } (rtI Z Q) := E
  show jJ G 2 0 [(0, .ref v0), (1, .ref v1)] [] Z I L 0 0
  refine j_aload_n E dX9_look_0 0 rfl ?_
  refine j_geti E 9 6 rfl rfl (by decide) (by decide) (iw iT_9) rfl rfl (tw W_374) kv0 dX9_look_1 ?_
  refine j_aload_n E dX9_look_4 0 rfl ?_
  refine j_geti E 9 7 rfl rfl (by decide) (by decide) (iw iT_9) rfl rfl (tw W_375) kv0 dX9_look_5 ?_
  refine j_icmp_ge E 22 dX9_look_8 (by decide) (fun c1 => ?_) (fun c1 => ?_)
  · have h := h.1 c1
    refine j_iconst E (v := -1) dX9_look_22 (by decide) ?_
    exact j_ireturn E ⟨rfl, _, rfl, h⟩ (Nat.zero_le _) (Nat.zero_le _) dX9_look_23
  · have h := h.2 c1
    refine j_aload_n E dX9_look_11 1 rfl ?_
    refine j_aload_n E dX9_look_12 0 rfl ?_
    refine j_geti E 9 6 rfl rfl (by decide) (by decide) (iw iT_9) rfl rfl (tw W_374) kv0 dX9_look_13 ?_
    refine j_callV E [.int (I v0 6)] [] (c_X10_signAt (gL G) (gD G) (gY G) v1 (I v0 6) Z I L _ hZ kv1 h) (gwV W_376 W_191 W_192 W_189 W_188) rfl ⟨rfl, fy_X10_signAt⟩ ⟨by decide, by decide⟩ (c := 10) rfl (by decide) kv1 rfl rfl (Nat.le_of_ble_eq_true rfl) ⟨Nat.zero_le _, Nat.zero_le _⟩ dX9_look_16 (fun v2 Z3 I4 L5 q6 => ?_)
    obtain ⟨rfl, r8, rfl, h⟩ := q6
    show jJ G 2 19 [(0, .ref v0), (1, .ref v1)] [.int r8] Z I4 L5 0 0
    refine j_goto E 23 dX9_look_19 (by decide) ?_
    exact j_ireturn E ⟨rfl, _, rfl, h⟩ (Nat.zero_le _) (Nat.zero_le _) dX9_look_23
set_option maxRecDepth 100000 in
def f_X9_readNumber_b107  (Z : jZ) (Q : Int32 → jI → jL → Prop) (v4 : Int32) (v6 : Int32) (I : jI) (L : jL) : Prop := ((v6 = 0 → Q (-1 : Int32) I L) ∧ (¬ (v6 = 0) → Q v4 I L))
set_option maxHeartbeats 4000000 in
set_option maxRecDepth 100000 in
theorem m_X9_readNumber_b107 {G : jG} {Z : jZ} {Q : Int32 → jI → jL → Prop} (E : jE G cX9_readNumber RX9 w_X9_readNumber 7 (some .int) { frames := 2, cells := 0, slots := 0, locals := 42 } (rtI Z Q)) (hZ : SH Z)  (v4 : Int32) (v6 : Int32) (I : jI) (L : jL)  (h : f_X9_readNumber_b107  Z Q v4 v6 I L) : jJ G 7 107 [(4, .int v4), (6, .int v6)] [] Z I L 0 0 := by
  refine j_iload E dX9_readNumber_107 1 rfl ?_
  refine j_if_eq E 117 dX9_readNumber_109 (by decide) (fun c1 => ?_) (fun c1 => ?_)
  · have h := h.1 c1
    refine j_iconst E (v := -1) dX9_readNumber_117 (by decide) ?_
    exact j_ireturn E ⟨rfl, _, rfl, h⟩ (Nat.zero_le _) (Nat.zero_le _) dX9_readNumber_118
  · have h := h.2 c1
    refine j_iload E dX9_readNumber_112 0 rfl ?_
    refine j_goto E 118 dX9_readNumber_114 (by decide) ?_
    exact j_ireturn E ⟨rfl, _, rfl, h⟩ (Nat.zero_le _) (Nat.zero_le _) dX9_readNumber_118
set_option maxRecDepth 100000 in
def f_X9_readNumber_b103  (Z : jZ) (Q : Int32 → jI → jL → Prop) (v4 : Int32) (v6 : Int32) (s0 : Nat) (s1 : Int32) (I : jI) (L : jL) : Prop := (f_X9_fail s0 s1 Z I L (fun r8 I4 L5 => f_X9_readNumber_b107  Z Q v4 v6 I4 L5))
set_option maxHeartbeats 4000000 in
set_option maxRecDepth 100000 in
theorem m_X9_readNumber_b103 {G : jG} {Z : jZ} {Q : Int32 → jI → jL → Prop} (E : jE G cX9_readNumber RX9 w_X9_readNumber 7 (some .int) { frames := 2, cells := 0, slots := 0, locals := 42 } (rtI Z Q)) (hZ : SH Z)  (v4 : Int32) (v6 : Int32) (s0 : Nat) (s1 : Int32) (I : jI) (L : jL) (ks0 : jk Z s0 9) (h : f_X9_readNumber_b103  Z Q v4 v6 s0 s1 I L) : jJ G 7 103 [(4, .int v4), (6, .int v6)] [.int s1, .ref s0] Z I L 0 0 := by
  refine j_callV E [.int s1] [] (c_X9_fail (gL G) (gD G) (gY G) s0 s1 Z I L _ hZ ks0 h) (gwV W_379 W_380 W_381 W_378 W_377) rfl ⟨rfl, fy_X9_fail⟩ ⟨by decide, by decide⟩ (c := 9) rfl (by decide) ks0 rfl rfl (Nat.le_of_ble_eq_true rfl) ⟨Nat.zero_le _, Nat.zero_le _⟩ dX9_readNumber_103 (fun v2 Z3 I4 L5 q6 => ?_)
  obtain ⟨rfl, r8, rfl, zr8, h⟩ := q6
  show jJ G 7 106 [(4, .int v4), (6, .int v6)] [.int r8] Z I4 L5 0 0
  refine j_pop E dX9_readNumber_106 rfl ?_
  refine j_sub [0, 1] rfl ?_
  exact m_X9_readNumber_b107 E hZ  v4 v6 I4 L5  h
set_option maxRecDepth 100000 in
def f_X9_readNumber_b77  (Z : jZ) (Q : Int32 → jI → jL → Prop) (v0 : Nat) (v4 : Int32) (v5 : Int32) (s0 : Int32) (I : jI) (L : jL) : Prop := ((¬ s0 = 0 → f_X9_readNumber_b107  Z Q v4 s0 I L) ∧ (s0 = 0 → ((¬ v5 = 0 → f_X9_readNumber_b103  Z Q v4 s0 v0 ((I v0 6) - (1 : Int32)) I L) ∧ (v5 = 0 → f_X9_readNumber_b103  Z Q v4 s0 v0 (I v0 6) I L))))
set_option maxHeartbeats 4000000 in
set_option maxRecDepth 100000 in
theorem m_X9_readNumber_b77 {G : jG} {Z : jZ} {Q : Int32 → jI → jL → Prop} (E : jE G cX9_readNumber RX9 w_X9_readNumber 7 (some .int) { frames := 2, cells := 0, slots := 0, locals := 42 } (rtI Z Q)) (hZ : SH Z)  (v0 : Nat) (v4 : Int32) (v5 : Int32) (s0 : Int32) (I : jI) (L : jL) (kv0 : jk Z v0 9) (h : f_X9_readNumber_b77  Z Q v0 v4 v5 s0 I L) : jJ G 7 77 [(0, .ref v0), (4, .int v4), (5, .int v5)] [.int s0] Z I L 0 0 := by
  refine j_istore E 6 [(6, .int s0), (0, .ref v0), (4, .int v4), (5, .int v5)] dX9_readNumber_77 (by decide) rfl ?_
  refine j_iload E dX9_readNumber_79 0 rfl ?_
  refine j_if_ne E 107 dX9_readNumber_81 (by decide) (fun c9 => ?_) (fun c9 => ?_)
  · have h := h.1 c9
    refine j_sub [2, 0] rfl ?_
    exact m_X9_readNumber_b107 E hZ  v4 s0 I L  h
  · have h := h.2 c9
    refine j_aload_n E dX9_readNumber_84 1 rfl ?_
    refine j_iload E dX9_readNumber_85 3 rfl ?_
    refine j_if_ne E 97 dX9_readNumber_87 (by decide) (fun c10 => ?_) (fun c10 => ?_)
    · have h := h.1 c10
      refine j_aload_n E dX9_readNumber_97 1 rfl ?_
      refine j_geti E 9 6 rfl rfl (by decide) (by decide) (iw iT_9) rfl rfl (tw W_374) kv0 dX9_readNumber_98 ?_
      refine j_iconst E (v := 1) dX9_readNumber_101 (by decide) ?_
      refine j_isub E dX9_readNumber_102 ?_
      refine j_sub [2, 0] rfl ?_
      exact m_X9_readNumber_b103 E hZ  v4 s0 v0 ((I v0 6) - (1 : Int32)) I L kv0 h
    · have h := h.2 c10
      refine j_aload_n E dX9_readNumber_90 1 rfl ?_
      refine j_geti E 9 6 rfl rfl (by decide) (by decide) (iw iT_9) rfl rfl (tw W_374) kv0 dX9_readNumber_91 ?_
      refine j_goto E 103 dX9_readNumber_94 (by decide) ?_
      refine j_sub [2, 0] rfl ?_
      exact m_X9_readNumber_b103 E hZ  v4 s0 v0 (I v0 6) I L kv0 h
set_option maxRecDepth 100000 in
def f_X9_readNumber_b76  (Z : jZ) (Q : Int32 → jI → jL → Prop) (v0 : Nat) (v4 : Int32) (v5 : Int32) (I : jI) (L : jL) : Prop := f_X9_readNumber_b77  Z Q v0 v4 v5 (0 : Int32) I L
set_option maxHeartbeats 4000000 in
set_option maxRecDepth 100000 in
theorem m_X9_readNumber_b76 {G : jG} {Z : jZ} {Q : Int32 → jI → jL → Prop} (E : jE G cX9_readNumber RX9 w_X9_readNumber 7 (some .int) { frames := 2, cells := 0, slots := 0, locals := 42 } (rtI Z Q)) (hZ : SH Z)  (v0 : Nat) (v4 : Int32) (v5 : Int32) (I : jI) (L : jL) (kv0 : jk Z v0 9) (h : f_X9_readNumber_b76  Z Q v0 v4 v5 I L) : jJ G 7 76 [(0, .ref v0), (4, .int v4), (5, .int v5)] [] Z I L 0 0 := by
  refine j_iconst E (v := 0) dX9_readNumber_76 (by decide) ?_
  refine j_sub [0, 1, 2] rfl ?_
  exact m_X9_readNumber_b77 E hZ  v0 v4 v5 (0 : Int32) I L kv0 h
set_option maxRecDepth 100000 in
def f_X9_readNumber_b55  (Z : jZ) (Q : Int32 → jI → jL → Prop) (v0 : Nat) (v2 : Int32) (v3 : Int32) (v4 : Int32) (v5 : Int32) (I : jI) (L : jL) : Prop := ((v5 ≤ 0 → f_X9_readNumber_b76  Z Q v0 v4 v5 I L) ∧ (¬ (v5 ≤ 0) → ((v4 < v2 → f_X9_readNumber_b76  Z Q v0 v4 v5 I L) ∧ (¬ (v4 < v2) → ((v3 < v4 → f_X9_readNumber_b76  Z Q v0 v4 v5 I L) ∧ (¬ (v3 < v4) → f_X9_readNumber_b77  Z Q v0 v4 v5 (1 : Int32) I L))))))
set_option maxHeartbeats 4000000 in
set_option maxRecDepth 100000 in
theorem m_X9_readNumber_b55 {G : jG} {Z : jZ} {Q : Int32 → jI → jL → Prop} (E : jE G cX9_readNumber RX9 w_X9_readNumber 7 (some .int) { frames := 2, cells := 0, slots := 0, locals := 42 } (rtI Z Q)) (hZ : SH Z)  (v0 : Nat) (v2 : Int32) (v3 : Int32) (v4 : Int32) (v5 : Int32) (I : jI) (L : jL) (kv0 : jk Z v0 9) (h : f_X9_readNumber_b55  Z Q v0 v2 v3 v4 v5 I L) : jJ G 7 55 [(0, .ref v0), (2, .int v2), (3, .int v3), (4, .int v4), (5, .int v5)] [] Z I L 0 0 := by
  refine j_iload E dX9_readNumber_55 4 rfl ?_
  refine j_if_le E 76 dX9_readNumber_57 (by decide) (fun c11 => ?_) (fun c11 => ?_)
  · have h := h.1 c11
    refine j_sub [0, 3, 4] rfl ?_
    exact m_X9_readNumber_b76 E hZ  v0 v4 v5 I L kv0 h
  · have h := h.2 c11
    refine j_iload E dX9_readNumber_60 3 rfl ?_
    refine j_iload_n E dX9_readNumber_62 1 rfl ?_
    refine j_icmp_lt E 76 dX9_readNumber_63 (by decide) (fun c12 => ?_) (fun c12 => ?_)
    · have h := h.1 c12
      refine j_sub [0, 3, 4] rfl ?_
      exact m_X9_readNumber_b76 E hZ  v0 v4 v5 I L kv0 h
    · have h := h.2 c12
      refine j_iload E dX9_readNumber_66 3 rfl ?_
      refine j_iload_n E dX9_readNumber_68 2 rfl ?_
      refine j_icmp_gt E 76 dX9_readNumber_69 (by decide) (fun c13 => ?_) (fun c13 => ?_)
      · have h := h.1 c13
        refine j_sub [0, 3, 4] rfl ?_
        exact m_X9_readNumber_b76 E hZ  v0 v4 v5 I L kv0 h
      · have h := h.2 c13
        refine j_iconst E (v := 1) dX9_readNumber_72 (by decide) ?_
        refine j_goto E 77 dX9_readNumber_73 (by decide) ?_
        refine j_sub [0, 3, 4] rfl ?_
        exact m_X9_readNumber_b77 E hZ  v0 v4 v5 (1 : Int32) I L kv0 h
set_option maxRecDepth 100000 in
def f_X9_readNumber_L6  (Z : jZ) (Q : Int32 → jI → jL → Prop) : Nat → Nat → Nat → Int32 → Int32 → Int32 → Int32 → jI → jL → Prop
  | 0 => fun _ _ _ _ _ _ _ _ => False
  | n + 1 => fun v0 v1 v2 v3 v4 v5 I L => (((2 : Int32) ≤ v5 → f_X9_readNumber_b55  Z Q v0 v2 v3 v4 v5 I L) ∧ (¬ ((2 : Int32) ≤ v5) → (f_X9_look v0 v1 Z I L (fun r21 I17 L18 => (f_X10_isDigit r21 Z I17 L18 (fun r28 I24 L25 => ((r28 = 0 → f_X9_readNumber_b55  Z Q v0 v2 v3 v4 v5 I24 L25) ∧ (¬ (r28 = 0) → (f_X9_look v0 v1 Z I24 L25 (fun r36 I32 L33 => (∀ x37 : Int32, x37 = (((v4 * (10 : Int32)) + r36) - (48 : Int32)) → (∀ I38 : jI, I38 = jpI I32 v0 6 ((I32 v0 6) + (1 : Int32)) → (∀ x39 : Int32, x39 = v5 + 1 → (f_X9_readNumber_L6 Z Q n) v0 v1 v2 v3 x37 x39 I38 L33)))))))))))))
set_option maxHeartbeats 4000000 in
set_option maxRecDepth 100000 in
theorem m_X9_readNumber_L6 {G : jG} {Z : jZ} {Q : Int32 → jI → jL → Prop} (E : jE G cX9_readNumber RX9 w_X9_readNumber 7 (some .int) { frames := 2, cells := 0, slots := 0, locals := 42 } (rtI Z Q)) (hZ : SH Z)  : ∀ (n : Nat) (v0 : Nat) (v1 : Nat) (v2 : Int32) (v3 : Int32) (v4 : Int32) (v5 : Int32) (I : jI) (L : jL), jk Z v0 9 → jk Z v1 10 → f_X9_readNumber_L6  Z Q n v0 v1 v2 v3 v4 v5 I L → jJ G 7 6 [(0, .ref v0), (1, .ref v1), (2, .int v2), (3, .int v3), (4, .int v4), (5, .int v5)] [] Z I L 0 0 := by
  intro n
  induction n with
  | zero => intro v0 v1 v2 v3 v4 v5 I L _ _ h; exact h.elim
  | succ n ih =>
    intro v0 v1 v2 v3 v4 v5 I L kv0 kv1 h
    have h : (((2 : Int32) ≤ v5 → f_X9_readNumber_b55  Z Q v0 v2 v3 v4 v5 I L) ∧ (¬ ((2 : Int32) ≤ v5) → (f_X9_look v0 v1 Z I L (fun r21 I17 L18 => (f_X10_isDigit r21 Z I17 L18 (fun r28 I24 L25 => ((r28 = 0 → f_X9_readNumber_b55  Z Q v0 v2 v3 v4 v5 I24 L25) ∧ (¬ (r28 = 0) → (f_X9_look v0 v1 Z I24 L25 (fun r36 I32 L33 => (∀ x37 : Int32, x37 = (((v4 * (10 : Int32)) + r36) - (48 : Int32)) → (∀ I38 : jI, I38 = jpI I32 v0 6 ((I32 v0 6) + (1 : Int32)) → (∀ x39 : Int32, x39 = v5 + 1 → (f_X9_readNumber_L6 Z Q n) v0 v1 v2 v3 x37 x39 I38 L33))))))))))))) := h
    obtain ⟨K6, eK6⟩ : ∃ K : Nat → Nat → Int32 → Int32 → Int32 → Int32 → jI → jL → Prop, K = f_X9_readNumber_L6  Z Q n := ⟨_, rfl⟩
    have hK6 := ih
    clear eK6 K6
    generalize f_X9_readNumber_L6  Z Q n = K6 at hK6 h
    refine j_iload E dX9_readNumber_6 5 rfl ?_
    refine j_iconst E (v := 2) dX9_readNumber_8 (by decide) ?_
    refine j_icmp_ge E 55 dX9_readNumber_9 (by decide) (fun c14 => ?_) (fun c14 => ?_)
    · have h := h.1 c14
      refine j_sub [0, 2, 3, 4, 5] rfl ?_
      exact m_X9_readNumber_b55 E hZ  v0 v2 v3 v4 v5 I L kv0 h
    · have h := h.2 c14
      refine j_aload_n E dX9_readNumber_12 0 rfl ?_
      refine j_aload_n E dX9_readNumber_13 1 rfl ?_
      refine j_callV E [.ref v1] [] (c_X9_look (gL G) (gD G) (gY G) v0 v1 Z I L _ hZ kv0 kv1 h) (gwV W_383 W_384 W_385 W_378 W_382) rfl ⟨rfl, fy_X9_look⟩ ⟨by decide, by decide⟩ (c := 9) rfl (by decide) kv0 rfl rfl (Nat.le_of_ble_eq_true rfl) ⟨Nat.zero_le _, Nat.zero_le _⟩ dX9_readNumber_14 (fun v15 Z16 I17 L18 q19 => ?_)
      obtain ⟨rfl, r21, rfl, h⟩ := q19
      show jJ G 7 17 [(0, .ref v0), (1, .ref v1), (2, .int v2), (3, .int v3), (4, .int v4), (5, .int v5)] [.int r21] Z I17 L18 0 0
      refine j_callS E [.int r21] [] (c_X10_isDigit (gL G) (gD G) (gY G) r21 Z I17 L18 _ hZ  h) (gwS W_386 W_206 W_189 W_204) rfl fy_X10_isDigit ⟨by decide, by decide⟩ rfl rfl (Nat.le_of_ble_eq_true rfl) ⟨Nat.zero_le _, Nat.zero_le _⟩ dX9_readNumber_17 (fun v22 Z23 I24 L25 q26 => ?_)
      obtain ⟨rfl, r28, rfl, zr28, h⟩ := q26
      show jJ G 7 20 [(0, .ref v0), (1, .ref v1), (2, .int v2), (3, .int v3), (4, .int v4), (5, .int v5)] [.int r28] Z I24 L25 0 0
      refine j_if_eq E 55 dX9_readNumber_20 (by decide) (fun c29 => ?_) (fun c29 => ?_)
      · have h := h.1 c29
        refine j_sub [0, 2, 3, 4, 5] rfl ?_
        exact m_X9_readNumber_b55 E hZ  v0 v2 v3 v4 v5 I24 L25 kv0 h
      · have h := h.2 c29
        refine j_iload E dX9_readNumber_23 4 rfl ?_
        refine j_bipush E (v := 10) dX9_readNumber_25 (by decide) ?_
        refine j_imul E dX9_readNumber_27 ?_
        refine j_aload_n E dX9_readNumber_28 0 rfl ?_
        refine j_aload_n E dX9_readNumber_29 1 rfl ?_
        refine j_callV E [.ref v1] [.int (v4 * (10 : Int32))] (c_X9_look (gL G) (gD G) (gY G) v0 v1 Z I24 L25 _ hZ kv0 kv1 h) (gwV W_383 W_384 W_385 W_378 W_382) rfl ⟨rfl, fy_X9_look⟩ ⟨by decide, by decide⟩ (c := 9) rfl (by decide) kv0 rfl rfl (Nat.le_of_ble_eq_true rfl) ⟨Nat.zero_le _, Nat.zero_le _⟩ dX9_readNumber_30 (fun v30 Z31 I32 L33 q34 => ?_)
        obtain ⟨rfl, r36, rfl, h⟩ := q34
        show jJ G 7 33 [(0, .ref v0), (1, .ref v1), (2, .int v2), (3, .int v3), (4, .int v4), (5, .int v5)] [.int r36, .int (v4 * (10 : Int32))] Z I32 L33 0 0
        refine j_iadd E dX9_readNumber_33 ?_
        refine j_bipush E (v := 48) dX9_readNumber_34 (by decide) ?_
        refine j_isub E dX9_readNumber_36 ?_
        refine j_topi (fun x37 ex37 => ?_)
        have h := h x37 ex37
        refine j_istore E 4 [(4, .int x37), (0, .ref v0), (1, .ref v1), (2, .int v2), (3, .int v3), (5, .int v5)] dX9_readNumber_37 (by decide) rfl ?_
        refine j_aload_n E dX9_readNumber_39 1 rfl ?_
        refine j_dup E dX9_readNumber_40 rfl ?_
        refine j_geti E 9 6 rfl rfl (by decide) (by decide) (iw iT_9) rfl rfl (tw W_374) kv0 dX9_readNumber_41 ?_
        refine j_iconst E (v := 1) dX9_readNumber_44 (by decide) ?_
        refine j_iadd E dX9_readNumber_45 ?_
        refine j_puti E 9 6 rfl rfl (by decide) (by decide) (iw iT_9) tyX9_ok nmX9 rfl rfl (tw W_374) rfl rfl rfl kv0 dX9_readNumber_46 ?_
        refine j_nmI (fun I38 eI38 => ?_)
        have h := h I38 eI38
        obtain ⟨x39, ex39⟩ : ∃ y : Int32, y = v5 + 1 := ⟨_, rfl⟩
        have h := h x39 ex39
        refine j_iinc E x39 [(5, .int x39), (4, .int x37), (0, .ref v0), (1, .ref v1), (2, .int v2), (3, .int v3)] dX9_readNumber_49 5 rfl (by rw [ex39]; rfl) (by decide) rfl ?_
        refine j_goto E 6 dX9_readNumber_52 (by decide) ?_
        refine j_sub [2, 3, 4, 5, 1, 0] rfl ?_
        exact hK6 v0 v1 v2 v3 x37 x39 I38 L33 kv0 kv1 h
set_option maxRecDepth 100000 in
def f_X9_readNumber (v0 : Nat) (v1 : Nat) (v2 : Int32) (v3 : Int32) (Z : jZ) (I : jI) (L : jL) (Q : Int32 → jI → jL → Prop) : Prop := (∃ m6 : Nat, f_X9_readNumber_L6  Z Q m6 v0 v1 v2 v3 (0 : Int32) (0 : Int32) I L)
set_option maxHeartbeats 4000000 in
set_option maxRecDepth 100000 in
theorem c_X9_readNumber (l : Launch) (D : va_G) (cy : jC) (v0 : Nat) (v1 : Nat) (v2 : Int32) (v3 : Int32) (Z : jZ) (I : jI) (L : jL) (Q : Int32 → jI → jL → Prop) (hZ : SH Z) (kv0 : jk Z v0 9) (kv1 : jk Z v1 10) (h : f_X9_readNumber v0 v1 v2 v3 Z I L Q) : jCt l yX9_readNumber w_X9_readNumber { frames := 2, cells := 0, slots := 0, locals := 42 } D cy [.ref v0, .ref v1, .int v2, .int v3] Z I L (rtI Z Q) := by
  refine jCt_of (cc := cX9_readNumber) (maxL := 7) (ret := (some .int)) (by decide +kernel) rfl (Nat.le_of_ble_eq_true rfl) ?_
  intro G eD eY eL E
  subst eD; subst eY; subst eL
  have E : jE G cX9_readNumber RX9 w_X9_readNumber 7 (some .int) { frames := 2, cells := 0, slots := 0, locals := 42 } (rtI Z Q) := E
  show jJ G 7 0 [(0, .ref v0), (1, .ref v1), (2, .int v2), (3, .int v3)] [] Z I L 0 0
  refine j_iconst E (v := 0) dX9_readNumber_0 (by decide) ?_
  refine j_istore E 4 [(4, .int (0 : Int32)), (0, .ref v0), (1, .ref v1), (2, .int v2), (3, .int v3)] dX9_readNumber_1 (by decide) rfl ?_
  refine j_iconst E (v := 0) dX9_readNumber_3 (by decide) ?_
  refine j_istore E 5 [(5, .int (0 : Int32)), (4, .int (0 : Int32)), (0, .ref v0), (1, .ref v1), (2, .int v2), (3, .int v3)] dX9_readNumber_4 (by decide) rfl ?_
  obtain ⟨n40, h⟩ := h
  refine j_sub [2, 3, 4, 5, 1, 0] rfl ?_
  exact m_X9_readNumber_L6 E hZ  n40 v0 v1 v2 v3 (0 : Int32) (0 : Int32) I L kv0 kv1 h
set_option maxRecDepth 100000 in
def f_X9_readMark (v0 : Nat) (v1 : Nat) (v2 : Int32) (Z : jZ) (I : jI) (L : jL) (Q : Int32 → jI → jL → Prop) : Prop := (f_X9_look v0 v1 Z I L (fun r7 I3 L4 => ((r7 = v2 → (∀ I9 : jI, I9 = jpI I3 v0 6 ((I3 v0 6) + (1 : Int32)) → Q (1 : Int32) I9 L4)) ∧ (¬ (r7 = v2) → (f_X9_fail v0 (I3 v0 6) Z I3 L4 (fun r16 I12 L13 => Q r16 I12 L13))))))
set_option maxHeartbeats 4000000 in
set_option maxRecDepth 100000 in
theorem c_X9_readMark (l : Launch) (D : va_G) (cy : jC) (v0 : Nat) (v1 : Nat) (v2 : Int32) (Z : jZ) (I : jI) (L : jL) (Q : Int32 → jI → jL → Prop) (hZ : SH Z) (kv0 : jk Z v0 9) (kv1 : jk Z v1 10) (h : f_X9_readMark v0 v1 v2 Z I L Q) : jCt l yX9_readMark w_X9_readMark { frames := 2, cells := 0, slots := 0, locals := 42 } D cy [.ref v0, .ref v1, .int v2] Z I L (rtZ Z Q) := by
  refine jCt_of (cc := cX9_readMark) (maxL := 3) (ret := (some .boolean)) (by decide +kernel) rfl (Nat.le_of_ble_eq_true rfl) ?_
  intro G eD eY eL E
  subst eD; subst eY; subst eL
  have E : jE G cX9_readMark RX9 w_X9_readMark 3 (some .boolean) { frames := 2, cells := 0, slots := 0, locals := 42 } (rtZ Z Q) := E
  show jJ G 3 0 [(0, .ref v0), (1, .ref v1), (2, .int v2)] [] Z I L 0 0
  refine j_aload_n E dX9_readMark_0 0 rfl ?_
  refine j_aload_n E dX9_readMark_1 1 rfl ?_
  refine j_callV E [.ref v1] [] (c_X9_look (gL G) (gD G) (gY G) v0 v1 Z I L _ hZ kv0 kv1 h) (gwV W_383 W_384 W_385 W_378 W_382) rfl ⟨rfl, fy_X9_look⟩ ⟨by decide, by decide⟩ (c := 9) rfl (by decide) kv0 rfl rfl (Nat.le_of_ble_eq_true rfl) ⟨Nat.zero_le _, Nat.zero_le _⟩ dX9_readMark_2 (fun v1 Z2 I3 L4 q5 => ?_)
  obtain ⟨rfl, r7, rfl, h⟩ := q5
  show jJ G 3 5 [(0, .ref v0), (1, .ref v1), (2, .int v2)] [.int r7] Z I3 L4 0 0
  refine j_iload_n E dX9_readMark_5 2 rfl ?_
  refine j_icmp_eq E 18 dX9_readMark_6 (by decide) (fun c8 => ?_) (fun c8 => ?_)
  · have h := h.1 c8
    refine j_aload_n E dX9_readMark_18 0 rfl ?_
    refine j_dup E dX9_readMark_19 rfl ?_
    refine j_geti E 9 6 rfl rfl (by decide) (by decide) (iw iT_9) rfl rfl (tw W_374) kv0 dX9_readMark_20 ?_
    refine j_iconst E (v := 1) dX9_readMark_23 (by decide) ?_
    refine j_iadd E dX9_readMark_24 ?_
    refine j_puti E 9 6 rfl rfl (by decide) (by decide) (iw iT_9) tyX9_ok nmX9 rfl rfl (tw W_374) rfl rfl rfl kv0 dX9_readMark_25 ?_
    refine j_nmI (fun I9 eI9 => ?_)
    have h := h I9 eI9
    refine j_iconst E (v := 1) dX9_readMark_28 (by decide) ?_
    exact j_zreturn E (Or.inr rfl) ⟨rfl, _, rfl, (Or.inr rfl), h⟩ (Nat.zero_le _) (Nat.zero_le _) dX9_readMark_29
  · have h := h.2 c8
    refine j_aload_n E dX9_readMark_9 0 rfl ?_
    refine j_aload_n E dX9_readMark_10 0 rfl ?_
    refine j_geti E 9 6 rfl rfl (by decide) (by decide) (iw iT_9) rfl rfl (tw W_374) kv0 dX9_readMark_11 ?_
    refine j_callV E [.int (I3 v0 6)] [] (c_X9_fail (gL G) (gD G) (gY G) v0 (I3 v0 6) Z I3 L4 _ hZ kv0 h) (gwV W_379 W_380 W_381 W_378 W_377) rfl ⟨rfl, fy_X9_fail⟩ ⟨by decide, by decide⟩ (c := 9) rfl (by decide) kv0 rfl rfl (Nat.le_of_ble_eq_true rfl) ⟨Nat.zero_le _, Nat.zero_le _⟩ dX9_readMark_14 (fun v10 Z11 I12 L13 q14 => ?_)
    obtain ⟨rfl, r16, rfl, zr16, h⟩ := q14
    show jJ G 3 17 [(0, .ref v0), (1, .ref v1), (2, .int v2)] [.int r16] Z I12 L13 0 0
    exact j_zreturn E zr16 ⟨rfl, _, rfl, zr16, h⟩ (Nat.zero_le _) (Nat.zero_le _) dX9_readMark_17
set_option maxRecDepth 100000 in
def f_X9_readFamily (v0 : Nat) (v1 : Nat) (Z : jZ) (I : jI) (L : jL) (Q : Int32 → jI → jL → Prop) : Prop := (f_X9_look v0 v1 Z I L (fun r7 I3 L4 => (∀ x8 : Int32, x8 = (r7 - (48 : Int32)) → (f_X11_isFamily x8 Z I3 L4 (fun r15 I11 L12 => ((¬ r15 = 0 → (∀ I17 : jI, I17 = jpI I11 v0 6 ((I11 v0 6) + (1 : Int32)) → Q x8 I17 L12)) ∧ (r15 = 0 → (f_X9_fail v0 (I11 v0 6) Z I11 L12 (fun r24 I20 L21 => Q (-1 : Int32) I20 L21)))))))))
set_option maxHeartbeats 4000000 in
set_option maxRecDepth 100000 in
theorem c_X9_readFamily (l : Launch) (D : va_G) (cy : jC) (v0 : Nat) (v1 : Nat) (Z : jZ) (I : jI) (L : jL) (Q : Int32 → jI → jL → Prop) (hZ : SH Z) (kv0 : jk Z v0 9) (kv1 : jk Z v1 10) (h : f_X9_readFamily v0 v1 Z I L Q) : jCt l yX9_readFamily w_X9_readFamily { frames := 2, cells := 0, slots := 0, locals := 42 } D cy [.ref v0, .ref v1] Z I L (rtI Z Q) := by
  refine jCt_of (cc := cX9_readFamily) (maxL := 3) (ret := (some .int)) (by decide +kernel) rfl (Nat.le_of_ble_eq_true rfl) ?_
  intro G eD eY eL E
  subst eD; subst eY; subst eL
  have E : jE G cX9_readFamily RX9 w_X9_readFamily 3 (some .int) { frames := 2, cells := 0, slots := 0, locals := 42 } (rtI Z Q) := E
  show jJ G 3 0 [(0, .ref v0), (1, .ref v1)] [] Z I L 0 0
  refine j_aload_n E dX9_readFamily_0 0 rfl ?_
  refine j_aload_n E dX9_readFamily_1 1 rfl ?_
  refine j_callV E [.ref v1] [] (c_X9_look (gL G) (gD G) (gY G) v0 v1 Z I L _ hZ kv0 kv1 h) (gwV W_383 W_384 W_385 W_378 W_382) rfl ⟨rfl, fy_X9_look⟩ ⟨by decide, by decide⟩ (c := 9) rfl (by decide) kv0 rfl rfl (Nat.le_of_ble_eq_true rfl) ⟨Nat.zero_le _, Nat.zero_le _⟩ dX9_readFamily_2 (fun v1 Z2 I3 L4 q5 => ?_)
  obtain ⟨rfl, r7, rfl, h⟩ := q5
  show jJ G 3 5 [(0, .ref v0), (1, .ref v1)] [.int r7] Z I3 L4 0 0
  refine j_bipush E (v := 48) dX9_readFamily_5 (by decide) ?_
  refine j_isub E dX9_readFamily_7 ?_
  refine j_topi (fun x8 ex8 => ?_)
  have h := h x8 ex8
  refine j_istore_n E 2 [(2, .int x8), (0, .ref v0), (1, .ref v1)] dX9_readFamily_8 rfl (by decide) rfl ?_
  refine j_iload_n E dX9_readFamily_9 0 rfl ?_
  refine j_callSN E [.int x8] [] (c_X11_isFamily (gL G) (gD G) (gY G) x8 Z I3 L4 _ hZ  h) (gwN W_219) rfl (nm_X11_isFamily_X9_75) (tw W_40) (tw W_220) fy_X11_isFamily ⟨by decide, by decide⟩ rfl rfl (Nat.le_of_ble_eq_true rfl) ⟨Nat.zero_le _, Nat.zero_le _⟩ dX9_readFamily_10 (fun v9 Z10 I11 L12 q13 => ?_)
  obtain ⟨rfl, r15, rfl, zr15, h⟩ := q13
  show jJ G 3 13 [(2, .int x8), (0, .ref v0), (1, .ref v1)] [.int r15] Z I11 L12 0 0
  refine j_if_ne E 27 dX9_readFamily_13 (by decide) (fun c16 => ?_) (fun c16 => ?_)
  · have h := h.1 c16
    refine j_aload_n E dX9_readFamily_27 1 rfl ?_
    refine j_dup E dX9_readFamily_28 rfl ?_
    refine j_geti E 9 6 rfl rfl (by decide) (by decide) (iw iT_9) rfl rfl (tw W_374) kv0 dX9_readFamily_29 ?_
    refine j_iconst E (v := 1) dX9_readFamily_32 (by decide) ?_
    refine j_iadd E dX9_readFamily_33 ?_
    refine j_puti E 9 6 rfl rfl (by decide) (by decide) (iw iT_9) tyX9_ok nmX9 rfl rfl (tw W_374) rfl rfl rfl kv0 dX9_readFamily_34 ?_
    refine j_nmI (fun I17 eI17 => ?_)
    have h := h I17 eI17
    refine j_iload_n E dX9_readFamily_37 0 rfl ?_
    exact j_ireturn E ⟨rfl, _, rfl, h⟩ (Nat.zero_le _) (Nat.zero_le _) dX9_readFamily_38
  · have h := h.2 c16
    refine j_aload_n E dX9_readFamily_16 1 rfl ?_
    refine j_aload_n E dX9_readFamily_17 1 rfl ?_
    refine j_geti E 9 6 rfl rfl (by decide) (by decide) (iw iT_9) rfl rfl (tw W_374) kv0 dX9_readFamily_18 ?_
    refine j_callV E [.int (I11 v0 6)] [] (c_X9_fail (gL G) (gD G) (gY G) v0 (I11 v0 6) Z I11 L12 _ hZ kv0 h) (gwV W_379 W_380 W_381 W_378 W_377) rfl ⟨rfl, fy_X9_fail⟩ ⟨by decide, by decide⟩ (c := 9) rfl (by decide) kv0 rfl rfl (Nat.le_of_ble_eq_true rfl) ⟨Nat.zero_le _, Nat.zero_le _⟩ dX9_readFamily_21 (fun v18 Z19 I20 L21 q22 => ?_)
    obtain ⟨rfl, r24, rfl, zr24, h⟩ := q22
    show jJ G 3 24 [(2, .int x8), (0, .ref v0), (1, .ref v1)] [.int r24] Z I20 L21 0 0
    refine j_pop E dX9_readFamily_24 rfl ?_
    refine j_iconst E (v := -1) dX9_readFamily_25 (by decide) ?_
    exact j_ireturn E ⟨rfl, _, rfl, h⟩ (Nat.zero_le _) (Nat.zero_le _) dX9_readFamily_26
set_option maxRecDepth 100000 in
def f_X9_readTimes (v0 : Nat) (v1 : Nat) (Z : jZ) (I : jI) (L : jL) (Q : Int32 → jI → jL → Prop) : Prop := (f_X9_look v0 v1 Z I L (fun r7 I3 L4 => ((r7 = (42 : Int32) → (∀ I9 : jI, I9 = jpI I3 v0 6 ((I3 v0 6) + (1 : Int32)) → (f_X9_readNumber v0 v1 (1 : Int32) ((24 : Int32) - (I9 v0 5)) Z I9 L4 (fun r16 I12 L13 => Q r16 I12 L13)))) ∧ (¬ (r7 = (42 : Int32)) → Q (1 : Int32) I3 L4))))
set_option maxHeartbeats 4000000 in
set_option maxRecDepth 100000 in
theorem c_X9_readTimes (l : Launch) (D : va_G) (cy : jC) (v0 : Nat) (v1 : Nat) (Z : jZ) (I : jI) (L : jL) (Q : Int32 → jI → jL → Prop) (hZ : SH Z) (kv0 : jk Z v0 9) (kv1 : jk Z v1 10) (h : f_X9_readTimes v0 v1 Z I L Q) : jCt l yX9_readTimes w_X9_readTimes { frames := 3, cells := 0, slots := 0, locals := 68 } D cy [.ref v0, .ref v1] Z I L (rtI Z Q) := by
  refine jCt_of (cc := cX9_readTimes) (maxL := 2) (ret := (some .int)) (by decide +kernel) rfl (Nat.le_of_ble_eq_true rfl) ?_
  intro G eD eY eL E
  subst eD; subst eY; subst eL
  have E : jE G cX9_readTimes RX9 w_X9_readTimes 2 (some .int) { frames := 3, cells := 0, slots := 0, locals := 68 } (rtI Z Q) := E
  show jJ G 2 0 [(0, .ref v0), (1, .ref v1)] [] Z I L 0 0
  refine j_aload_n E dX9_readTimes_0 0 rfl ?_
  refine j_aload_n E dX9_readTimes_1 1 rfl ?_
  refine j_callV E [.ref v1] [] (c_X9_look (gL G) (gD G) (gY G) v0 v1 Z I L _ hZ kv0 kv1 h) (gwV W_383 W_384 W_385 W_378 W_382) rfl ⟨rfl, fy_X9_look⟩ ⟨by decide, by decide⟩ (c := 9) rfl (by decide) kv0 rfl rfl (Nat.le_of_ble_eq_true rfl) ⟨Nat.zero_le _, Nat.zero_le _⟩ dX9_readTimes_2 (fun v1 Z2 I3 L4 q5 => ?_)
  obtain ⟨rfl, r7, rfl, h⟩ := q5
  show jJ G 2 5 [(0, .ref v0), (1, .ref v1)] [.int r7] Z I3 L4 0 0
  refine j_bipush E (v := 42) dX9_readTimes_5 (by decide) ?_
  refine j_icmp_eq E 12 dX9_readTimes_7 (by decide) (fun c8 => ?_) (fun c8 => ?_)
  · have h := h.1 c8
    refine j_aload_n E dX9_readTimes_12 0 rfl ?_
    refine j_dup E dX9_readTimes_13 rfl ?_
    refine j_geti E 9 6 rfl rfl (by decide) (by decide) (iw iT_9) rfl rfl (tw W_374) kv0 dX9_readTimes_14 ?_
    refine j_iconst E (v := 1) dX9_readTimes_17 (by decide) ?_
    refine j_iadd E dX9_readTimes_18 ?_
    refine j_puti E 9 6 rfl rfl (by decide) (by decide) (iw iT_9) tyX9_ok nmX9 rfl rfl (tw W_374) rfl rfl rfl kv0 dX9_readTimes_19 ?_
    refine j_nmI (fun I9 eI9 => ?_)
    have h := h I9 eI9
    refine j_aload_n E dX9_readTimes_22 0 rfl ?_
    refine j_aload_n E dX9_readTimes_23 1 rfl ?_
    refine j_iconst E (v := 1) dX9_readTimes_24 (by decide) ?_
    refine j_bipush E (v := 24) dX9_readTimes_25 (by decide) ?_
    refine j_aload_n E dX9_readTimes_27 0 rfl ?_
    refine j_geti E 9 5 rfl rfl (by decide) (by decide) (iw iT_9) rfl rfl (tw W_387) kv0 dX9_readTimes_28 ?_
    refine j_isub E dX9_readTimes_31 ?_
    refine j_callV E [.ref v1, .int (1 : Int32), .int ((24 : Int32) - (I9 v0 5))] [] (c_X9_readNumber (gL G) (gD G) (gY G) v0 v1 (1 : Int32) ((24 : Int32) - (I9 v0 5)) Z I9 L4 _ hZ kv0 kv1 h) (gwV W_389 W_390 W_391 W_378 W_388) rfl ⟨rfl, fy_X9_readNumber⟩ ⟨by decide, by decide⟩ (c := 9) rfl (by decide) kv0 rfl rfl (Nat.le_of_ble_eq_true rfl) ⟨Nat.zero_le _, Nat.zero_le _⟩ dX9_readTimes_32 (fun v10 Z11 I12 L13 q14 => ?_)
    obtain ⟨rfl, r16, rfl, h⟩ := q14
    show jJ G 2 35 [(0, .ref v0), (1, .ref v1)] [.int r16] Z I12 L13 0 0
    exact j_ireturn E ⟨rfl, _, rfl, h⟩ (Nat.zero_le _) (Nat.zero_le _) dX9_readTimes_35
  · have h := h.2 c8
    refine j_iconst E (v := 1) dX9_readTimes_10 (by decide) ?_
    exact j_ireturn E ⟨rfl, _, rfl, h⟩ (Nat.zero_le _) (Nat.zero_le _) dX9_readTimes_11
set_option maxRecDepth 100000 in
def f_X9_put (v0 : Nat) (v1 : Int32) (v2 : Int32) (v3 : Int32) (v4 : Int32) (v5 : Int32) (Z : jZ) (I : jI) (L : jL) (Q : jI → jL → Prop) : Prop := (((24 : Int32) ≤ (I v0 5) → Q I L) ∧ (¬ ((24 : Int32) ≤ (I v0 5)) → (∀ b2 : Nat, jr Z v0 0 = some b2 → (vp_in (I v0 5) 24 ∧ (∀ I4 : jI, I4 = jpI I b2 (I v0 5).toNatClampNeg v1 → (∀ b5 : Nat, jr Z v0 1 = some b5 → (vp_in (I4 v0 5) 24 ∧ (∀ I7 : jI, I7 = jpI I4 b5 (I4 v0 5).toNatClampNeg v2 → (∀ b8 : Nat, jr Z v0 2 = some b8 → (vp_in (I7 v0 5) 24 ∧ (∀ I10 : jI, I10 = jpI I7 b8 (I7 v0 5).toNatClampNeg v3 → (∀ b11 : Nat, jr Z v0 3 = some b11 → (vp_in (I10 v0 5) 24 ∧ (∀ I13 : jI, I13 = jpI I10 b11 (I10 v0 5).toNatClampNeg v4 → (∀ b14 : Nat, jr Z v0 4 = some b14 → (vp_in (I13 v0 5) 24 ∧ (∀ I16 : jI, I16 = jpI I13 b14 (I13 v0 5).toNatClampNeg v5 → (∀ I17 : jI, I17 = jpI I16 v0 5 ((I16 v0 5) + (1 : Int32)) → Q I17 L))))))))))))))))))
set_option maxHeartbeats 4000000 in
set_option maxRecDepth 100000 in
theorem c_X9_put (l : Launch) (D : va_G) (cy : jC) (v0 : Nat) (v1 : Int32) (v2 : Int32) (v3 : Int32) (v4 : Int32) (v5 : Int32) (Z : jZ) (I : jI) (L : jL) (Q : jI → jL → Prop) (hZ : SH Z) (kv0 : jk Z v0 9) (h : f_X9_put v0 v1 v2 v3 v4 v5 Z I L Q) : jCt l yX9_put w_X9_put { frames := 0, cells := 0, slots := 0, locals := 0 } D cy [.ref v0, .int v1, .int v2, .int v3, .int v4, .int v5] Z I L (rtV Z Q) := by
  refine jCt_of (cc := cX9_put) (maxL := 6) (ret := none) (by decide +kernel) rfl (Nat.le_of_ble_eq_true rfl) ?_
  intro G eD eY eL E
  subst eD; subst eY; subst eL
  have E : jE G cX9_put RX9 w_X9_put 6 none { frames := 0, cells := 0, slots := 0, locals := 0 } (rtV Z Q) := E
  show jJ G 6 0 [(0, .ref v0), (1, .int v1), (2, .int v2), (3, .int v3), (4, .int v4), (5, .int v5)] [] Z I L 0 0
  refine j_aload_n E dX9_put_0 0 rfl ?_
  refine j_geti E 9 5 rfl rfl (by decide) (by decide) (iw iT_9) rfl rfl (tw W_387) kv0 dX9_put_1 ?_
  refine j_bipush E (v := 24) dX9_put_4 (by decide) ?_
  refine j_icmp_ge E 71 dX9_put_6 (by decide) (fun c1 => ?_) (fun c1 => ?_)
  · have h := h.1 c1
    exact j_return E ⟨rfl, rfl, h⟩ (Nat.zero_le _) (Nat.zero_le _) dX9_put_71
  · have h := h.2 c1
    refine j_aload_n E dX9_put_9 0 rfl ?_
    obtain ⟨b2, eb2, kb2, lb2⟩ := sh_f hZ kv0 (j := 0) (k := 14) (m := 24) rfl
    have h := h b2 eb2
    refine j_getr E 9 0 rfl rfl (by decide) (by decide) (iw iT_9) rfl rfl (tw W_392) kv0 eb2 dX9_put_10 ?_
    refine j_aload_n E dX9_put_13 0 rfl ?_
    refine j_geti E 9 5 rfl rfl (by decide) (by decide) (iw iT_9) rfl rfl (tw W_387) kv0 dX9_put_14 ?_
    refine j_iload_n E dX9_put_17 1 rfl ?_
    obtain ⟨o3, h⟩ := h
    refine j_iast E kb2 (by rw [lb2]; exact o3) dX9_put_18 ?_
    refine j_nmI (fun I4 eI4 => ?_)
    have h := h I4 eI4
    refine j_aload_n E dX9_put_19 0 rfl ?_
    obtain ⟨b5, eb5, kb5, lb5⟩ := sh_f hZ kv0 (j := 1) (k := 14) (m := 24) rfl
    have h := h b5 eb5
    refine j_getr E 9 1 rfl rfl (by decide) (by decide) (iw iT_9) rfl rfl (tw W_393) kv0 eb5 dX9_put_20 ?_
    refine j_aload_n E dX9_put_23 0 rfl ?_
    refine j_geti E 9 5 rfl rfl (by decide) (by decide) (iw iT_9) rfl rfl (tw W_387) kv0 dX9_put_24 ?_
    refine j_iload_n E dX9_put_27 2 rfl ?_
    obtain ⟨o6, h⟩ := h
    refine j_iast E kb5 (by rw [lb5]; exact o6) dX9_put_28 ?_
    refine j_nmI (fun I7 eI7 => ?_)
    have h := h I7 eI7
    refine j_aload_n E dX9_put_29 0 rfl ?_
    obtain ⟨b8, eb8, kb8, lb8⟩ := sh_f hZ kv0 (j := 2) (k := 14) (m := 24) rfl
    have h := h b8 eb8
    refine j_getr E 9 2 rfl rfl (by decide) (by decide) (iw iT_9) rfl rfl (tw W_394) kv0 eb8 dX9_put_30 ?_
    refine j_aload_n E dX9_put_33 0 rfl ?_
    refine j_geti E 9 5 rfl rfl (by decide) (by decide) (iw iT_9) rfl rfl (tw W_387) kv0 dX9_put_34 ?_
    refine j_iload_n E dX9_put_37 3 rfl ?_
    obtain ⟨o9, h⟩ := h
    refine j_iast E kb8 (by rw [lb8]; exact o9) dX9_put_38 ?_
    refine j_nmI (fun I10 eI10 => ?_)
    have h := h I10 eI10
    refine j_aload_n E dX9_put_39 0 rfl ?_
    obtain ⟨b11, eb11, kb11, lb11⟩ := sh_f hZ kv0 (j := 3) (k := 14) (m := 24) rfl
    have h := h b11 eb11
    refine j_getr E 9 3 rfl rfl (by decide) (by decide) (iw iT_9) rfl rfl (tw W_395) kv0 eb11 dX9_put_40 ?_
    refine j_aload_n E dX9_put_43 0 rfl ?_
    refine j_geti E 9 5 rfl rfl (by decide) (by decide) (iw iT_9) rfl rfl (tw W_387) kv0 dX9_put_44 ?_
    refine j_iload E dX9_put_47 4 rfl ?_
    obtain ⟨o12, h⟩ := h
    refine j_iast E kb11 (by rw [lb11]; exact o12) dX9_put_49 ?_
    refine j_nmI (fun I13 eI13 => ?_)
    have h := h I13 eI13
    refine j_aload_n E dX9_put_50 0 rfl ?_
    obtain ⟨b14, eb14, kb14, lb14⟩ := sh_f hZ kv0 (j := 4) (k := 14) (m := 24) rfl
    have h := h b14 eb14
    refine j_getr E 9 4 rfl rfl (by decide) (by decide) (iw iT_9) rfl rfl (tw W_396) kv0 eb14 dX9_put_51 ?_
    refine j_aload_n E dX9_put_54 0 rfl ?_
    refine j_geti E 9 5 rfl rfl (by decide) (by decide) (iw iT_9) rfl rfl (tw W_387) kv0 dX9_put_55 ?_
    refine j_iload E dX9_put_58 5 rfl ?_
    obtain ⟨o15, h⟩ := h
    refine j_iast E kb14 (by rw [lb14]; exact o15) dX9_put_60 ?_
    refine j_nmI (fun I16 eI16 => ?_)
    have h := h I16 eI16
    refine j_aload_n E dX9_put_61 0 rfl ?_
    refine j_dup E dX9_put_62 rfl ?_
    refine j_geti E 9 5 rfl rfl (by decide) (by decide) (iw iT_9) rfl rfl (tw W_387) kv0 dX9_put_63 ?_
    refine j_iconst E (v := 1) dX9_put_66 (by decide) ?_
    refine j_iadd E dX9_put_67 ?_
    refine j_puti E 9 5 rfl rfl (by decide) (by decide) (iw iT_9) tyX9_ok nmX9 rfl rfl (tw W_387) rfl rfl rfl kv0 dX9_put_68 ?_
    refine j_nmI (fun I17 eI17 => ?_)
    have h := h I17 eI17
    exact j_return E ⟨rfl, rfl, h⟩ (Nat.zero_le _) (Nat.zero_le _) dX9_put_71
set_option maxRecDepth 100000 in
def f_X9_readLine_L151  (Z : jZ) (Q : Int32 → jI → jL → Prop) : Nat → Nat → Int32 → Int32 → Int32 → Int32 → Int32 → Int32 → Int32 → jI → jL → Prop
  | 0 => fun _ _ _ _ _ _ _ _ _ _ => False
  | n + 1 => fun v0 v2 v3 v4 v5 v6 v7 v8 I L => ((v7 ≤ v8 → ((v7 = (-1 : Int32) → Q (0 : Int32) I L) ∧ (¬ (v7 = (-1 : Int32)) → Q (1 : Int32) I L))) ∧ (¬ (v7 ≤ v8) → (f_X9_put v0 v2 v3 v4 v6 v5 Z I L (fun I5 L6 => (∀ x9 : Int32, x9 = v8 + 1 → (f_X9_readLine_L151 Z Q n) v0 v2 v3 v4 v5 v6 v7 x9 I5 L6)))))
set_option maxHeartbeats 4000000 in
set_option maxRecDepth 100000 in
theorem m_X9_readLine_L151 {G : jG} {Z : jZ} {Q : Int32 → jI → jL → Prop} (E : jE G cX9_readLine RX9 w_X9_readLine 9 (some .boolean) { frames := 4, cells := 0, slots := 0, locals := 89 } (rtZ Z Q)) (hZ : SH Z)  : ∀ (n : Nat) (v0 : Nat) (v2 : Int32) (v3 : Int32) (v4 : Int32) (v5 : Int32) (v6 : Int32) (v7 : Int32) (v8 : Int32) (I : jI) (L : jL), jk Z v0 9 → f_X9_readLine_L151  Z Q n v0 v2 v3 v4 v5 v6 v7 v8 I L → jJ G 9 151 [(0, .ref v0), (2, .int v2), (3, .int v3), (4, .int v4), (5, .int v5), (6, .int v6), (7, .int v7), (8, .int v8)] [] Z I L 0 0 := by
  intro n
  induction n with
  | zero => intro v0 v2 v3 v4 v5 v6 v7 v8 I L _ h; exact h.elim
  | succ n ih =>
    intro v0 v2 v3 v4 v5 v6 v7 v8 I L kv0 h
    have h : ((v7 ≤ v8 → ((v7 = (-1 : Int32) → Q (0 : Int32) I L) ∧ (¬ (v7 = (-1 : Int32)) → Q (1 : Int32) I L))) ∧ (¬ (v7 ≤ v8) → (f_X9_put v0 v2 v3 v4 v6 v5 Z I L (fun I5 L6 => (∀ x9 : Int32, x9 = v8 + 1 → (f_X9_readLine_L151 Z Q n) v0 v2 v3 v4 v5 v6 v7 x9 I5 L6))))) := h
    obtain ⟨K151, eK151⟩ : ∃ K : Nat → Int32 → Int32 → Int32 → Int32 → Int32 → Int32 → Int32 → jI → jL → Prop, K = f_X9_readLine_L151  Z Q n := ⟨_, rfl⟩
    have hK151 := ih
    clear eK151 K151
    generalize f_X9_readLine_L151  Z Q n = K151 at hK151 h
    refine j_iload E dX9_readLine_151 7 rfl ?_
    refine j_iload E dX9_readLine_153 6 rfl ?_
    refine j_icmp_ge E 176 dX9_readLine_155 (by decide) (fun c1 => ?_) (fun c1 => ?_)
    · have h := h.1 c1
      refine j_iload E dX9_readLine_176 6 rfl ?_
      refine j_iconst E (v := -1) dX9_readLine_178 (by decide) ?_
      refine j_icmp_eq E 186 dX9_readLine_179 (by decide) (fun c2 => ?_) (fun c2 => ?_)
      · have h := h.1 c2
        refine j_iconst E (v := 0) dX9_readLine_186 (by decide) ?_
        exact j_zreturn E (Or.inl rfl) ⟨rfl, _, rfl, (Or.inl rfl), h⟩ (Nat.zero_le _) (Nat.zero_le _) dX9_readLine_187
      · have h := h.2 c2
        refine j_iconst E (v := 1) dX9_readLine_182 (by decide) ?_
        refine j_goto E 187 dX9_readLine_183 (by decide) ?_
        exact j_zreturn E (Or.inr rfl) ⟨rfl, _, rfl, (Or.inr rfl), h⟩ (Nat.zero_le _) (Nat.zero_le _) dX9_readLine_187
    · have h := h.2 c1
      refine j_aload_n E dX9_readLine_158 0 rfl ?_
      refine j_iload_n E dX9_readLine_159 1 rfl ?_
      refine j_iload_n E dX9_readLine_160 2 rfl ?_
      refine j_iload E dX9_readLine_161 3 rfl ?_
      refine j_iload E dX9_readLine_163 5 rfl ?_
      refine j_iload E dX9_readLine_165 4 rfl ?_
      refine j_callV E [.int v2, .int v3, .int v4, .int v6, .int v5] [] (c_X9_put (gL G) (gD G) (gY G) v0 v2 v3 v4 v6 v5 Z I L _ hZ kv0 h) (gwV W_398 W_399 W_400 W_378 W_397) rfl ⟨rfl, fy_X9_put⟩ ⟨by decide, by decide⟩ (c := 9) rfl (by decide) kv0 rfl rfl (Nat.le_of_ble_eq_true rfl) ⟨Nat.zero_le _, Nat.zero_le _⟩ dX9_readLine_167 (fun v3 Z4 I5 L6 q7 => ?_)
      obtain ⟨rfl, rfl, h⟩ := q7
      show jJ G 9 170 [(0, .ref v0), (2, .int v2), (3, .int v3), (4, .int v4), (5, .int v5), (6, .int v6), (7, .int v7), (8, .int v8)] [] Z I5 L6 0 0
      obtain ⟨x9, ex9⟩ : ∃ y : Int32, y = v8 + 1 := ⟨_, rfl⟩
      have h := h x9 ex9
      refine j_iinc E x9 [(8, .int x9), (0, .ref v0), (2, .int v2), (3, .int v3), (4, .int v4), (5, .int v5), (6, .int v6), (7, .int v7)] dX9_readLine_170 7 rfl (by rw [ex9]; rfl) (by decide) rfl ?_
      refine j_goto E 151 dX9_readLine_173 (by decide) ?_
      refine j_sub [1, 2, 3, 4, 5, 6, 7, 0] rfl ?_
      exact hK151 v0 v2 v3 v4 v5 v6 v7 x9 I5 L6 kv0 h
set_option maxRecDepth 100000 in
def f_X9_readLine_b128  (Z : jZ) (Q : Int32 → jI → jL → Prop) (v0 : Nat) (v1 : Nat) (v2 : Int32) (v3 : Int32) (v4 : Int32) (v5 : Int32) (s0 : Int32) (I : jI) (L : jL) : Prop := (∀ I10 : jI, I10 = jpI I v0 6 ((I v0 6) + s0) → (f_X9_readTimes v0 v1 Z I10 L (fun r17 I13 L14 => (∃ m151 : Nat, f_X9_readLine_L151  Z Q m151 v0 v2 v3 v4 v5 s0 r17 (0 : Int32) I13 L14))))
set_option maxHeartbeats 4000000 in
set_option maxRecDepth 100000 in
theorem m_X9_readLine_b128 {G : jG} {Z : jZ} {Q : Int32 → jI → jL → Prop} (E : jE G cX9_readLine RX9 w_X9_readLine 9 (some .boolean) { frames := 4, cells := 0, slots := 0, locals := 89 } (rtZ Z Q)) (hZ : SH Z)  (v0 : Nat) (v1 : Nat) (v2 : Int32) (v3 : Int32) (v4 : Int32) (v5 : Int32) (s0 : Int32) (I : jI) (L : jL) (kv0 : jk Z v0 9) (kv1 : jk Z v1 10) (h : f_X9_readLine_b128  Z Q v0 v1 v2 v3 v4 v5 s0 I L) : jJ G 9 128 [(0, .ref v0), (1, .ref v1), (2, .int v2), (3, .int v3), (4, .int v4), (5, .int v5)] [.int s0] Z I L 0 0 := by
  refine j_istore E 6 [(6, .int s0), (0, .ref v0), (1, .ref v1), (2, .int v2), (3, .int v3), (4, .int v4), (5, .int v5)] dX9_readLine_128 (by decide) rfl ?_
  refine j_aload_n E dX9_readLine_130 1 rfl ?_
  refine j_dup E dX9_readLine_131 rfl ?_
  refine j_geti E 9 6 rfl rfl (by decide) (by decide) (iw iT_9) rfl rfl (tw W_374) kv0 dX9_readLine_132 ?_
  refine j_iload E dX9_readLine_135 0 rfl ?_
  refine j_iadd E dX9_readLine_137 ?_
  refine j_puti E 9 6 rfl rfl (by decide) (by decide) (iw iT_9) tyX9_ok nmX9 rfl rfl (tw W_374) rfl rfl rfl kv0 dX9_readLine_138 ?_
  refine j_nmI (fun I10 eI10 => ?_)
  have h := h I10 eI10
  refine j_aload_n E dX9_readLine_141 1 rfl ?_
  refine j_aload_n E dX9_readLine_142 2 rfl ?_
  refine j_callV E [.ref v1] [] (c_X9_readTimes (gL G) (gD G) (gY G) v0 v1 Z I10 L _ hZ kv0 kv1 h) (gwV W_402 W_403 W_404 W_378 W_401) rfl ⟨rfl, fy_X9_readTimes⟩ ⟨by decide, by decide⟩ (c := 9) rfl (by decide) kv0 rfl rfl (Nat.le_of_ble_eq_true rfl) ⟨Nat.zero_le _, Nat.zero_le _⟩ dX9_readLine_143 (fun v11 Z12 I13 L14 q15 => ?_)
  obtain ⟨rfl, r17, rfl, h⟩ := q15
  show jJ G 9 146 [(6, .int s0), (0, .ref v0), (1, .ref v1), (2, .int v2), (3, .int v3), (4, .int v4), (5, .int v5)] [.int r17] Z I13 L14 0 0
  refine j_istore E 7 [(7, .int r17), (6, .int s0), (0, .ref v0), (1, .ref v1), (2, .int v2), (3, .int v3), (4, .int v4), (5, .int v5)] dX9_readLine_146 (by decide) rfl ?_
  refine j_iconst E (v := 0) dX9_readLine_148 (by decide) ?_
  refine j_istore E 8 [(8, .int (0 : Int32)), (7, .int r17), (6, .int s0), (0, .ref v0), (1, .ref v1), (2, .int v2), (3, .int v3), (4, .int v4), (5, .int v5)] dX9_readLine_149 (by decide) rfl ?_
  obtain ⟨n18, h⟩ := h
  refine j_sub [3, 5, 6, 7, 8, 2, 1, 0] rfl ?_
  exact m_X9_readLine_L151 E hZ  n18 v0 v2 v3 v4 v5 s0 r17 (0 : Int32) I13 L14 kv0 h
set_option maxRecDepth 100000 in
def f_X9_readLine (v0 : Nat) (v1 : Nat) (Z : jZ) (I : jI) (L : jL) (Q : Int32 → jI → jL → Prop) : Prop := (((I v0 5) < (24 : Int32) → (f_X9_readNumber v0 v1 (1 : Int32) (30 : Int32) Z I L (fun r26 I22 L23 => ((r26 = (-1 : Int32) → Q (0 : Int32) I22 L23) ∧ (¬ (r26 = (-1 : Int32)) → (f_X9_readMark v0 v1 (44 : Int32) Z I22 L23 (fun r34 I30 L31 => ((¬ r34 = 0 → (f_X9_readNumber v0 v1 (0 : Int32) (9 : Int32) Z I30 L31 (fun r42 I38 L39 => ((r42 = (-1 : Int32) → Q (0 : Int32) I38 L39) ∧ (¬ (r42 = (-1 : Int32)) → (f_X9_readMark v0 v1 (44 : Int32) Z I38 L39 (fun r50 I46 L47 => ((¬ r50 = 0 → (f_X9_readNumber v0 v1 (0 : Int32) (20 : Int32) Z I46 L47 (fun r58 I54 L55 => ((r58 = (-1 : Int32) → Q (0 : Int32) I54 L55) ∧ (¬ (r58 = (-1 : Int32)) → (f_X9_readMark v0 v1 (64 : Int32) Z I54 L55 (fun r66 I62 L63 => ((¬ r66 = 0 → (f_X9_readFamily v0 v1 Z I62 L63 (fun r74 I70 L71 => ((¬ r74 = (-1 : Int32) → (f_X9_look v0 v1 Z I70 L71 (fun r82 I78 L79 => ((¬ r82 = (119 : Int32) → f_X9_readLine_b128  Z Q v0 v1 r26 r42 r58 r74 (0 : Int32) I78 L79) ∧ (r82 = (119 : Int32) → f_X9_readLine_b128  Z Q v0 v1 r26 r42 r58 r74 (1 : Int32) I78 L79))))) ∧ (r74 = (-1 : Int32) → Q (0 : Int32) I70 L71))))) ∧ (r66 = 0 → Q (0 : Int32) I62 L63))))))))) ∧ (r50 = 0 → Q (0 : Int32) I46 L47))))))))) ∧ (r34 = 0 → Q (0 : Int32) I30 L31))))))))) ∧ (¬ ((I v0 5) < (24 : Int32)) → (f_X9_fail v0 (I v0 6) Z I L (fun r90 I86 L87 => Q r90 I86 L87))))
set_option maxHeartbeats 4000000 in
set_option maxRecDepth 100000 in
theorem c_X9_readLine (l : Launch) (D : va_G) (cy : jC) (v0 : Nat) (v1 : Nat) (Z : jZ) (I : jI) (L : jL) (Q : Int32 → jI → jL → Prop) (hZ : SH Z) (kv0 : jk Z v0 9) (kv1 : jk Z v1 10) (h : f_X9_readLine v0 v1 Z I L Q) : jCt l yX9_readLine w_X9_readLine { frames := 4, cells := 0, slots := 0, locals := 89 } D cy [.ref v0, .ref v1] Z I L (rtZ Z Q) := by
  refine jCt_of (cc := cX9_readLine) (maxL := 9) (ret := (some .boolean)) (by decide +kernel) rfl (Nat.le_of_ble_eq_true rfl) ?_
  intro G eD eY eL E
  subst eD; subst eY; subst eL
  have E : jE G cX9_readLine RX9 w_X9_readLine 9 (some .boolean) { frames := 4, cells := 0, slots := 0, locals := 89 } (rtZ Z Q) := E
  show jJ G 9 0 [(0, .ref v0), (1, .ref v1)] [] Z I L 0 0
  refine j_aload_n E dX9_readLine_0 0 rfl ?_
  refine j_geti E 9 5 rfl rfl (by decide) (by decide) (iw iT_9) rfl rfl (tw W_387) kv0 dX9_readLine_1 ?_
  refine j_bipush E (v := 24) dX9_readLine_4 (by decide) ?_
  refine j_icmp_lt E 18 dX9_readLine_6 (by decide) (fun c19 => ?_) (fun c19 => ?_)
  · have h := h.1 c19
    refine j_aload_n E dX9_readLine_18 0 rfl ?_
    refine j_aload_n E dX9_readLine_19 1 rfl ?_
    refine j_iconst E (v := 1) dX9_readLine_20 (by decide) ?_
    refine j_bipush E (v := 30) dX9_readLine_21 (by decide) ?_
    refine j_callV E [.ref v1, .int (1 : Int32), .int (30 : Int32)] [] (c_X9_readNumber (gL G) (gD G) (gY G) v0 v1 (1 : Int32) (30 : Int32) Z I L _ hZ kv0 kv1 h) (gwV W_389 W_390 W_391 W_378 W_388) rfl ⟨rfl, fy_X9_readNumber⟩ ⟨by decide, by decide⟩ (c := 9) rfl (by decide) kv0 rfl rfl (Nat.le_of_ble_eq_true rfl) ⟨Nat.zero_le _, Nat.zero_le _⟩ dX9_readLine_23 (fun v20 Z21 I22 L23 q24 => ?_)
    obtain ⟨rfl, r26, rfl, h⟩ := q24
    show jJ G 9 26 [(0, .ref v0), (1, .ref v1)] [.int r26] Z I22 L23 0 0
    refine j_istore_n E 2 [(2, .int r26), (0, .ref v0), (1, .ref v1)] dX9_readLine_26 rfl (by decide) rfl ?_
    refine j_iload_n E dX9_readLine_27 0 rfl ?_
    refine j_iconst E (v := -1) dX9_readLine_28 (by decide) ?_
    refine j_icmp_eq E 42 dX9_readLine_29 (by decide) (fun c27 => ?_) (fun c27 => ?_)
    · have h := h.1 c27
      refine j_iconst E (v := 0) dX9_readLine_42 (by decide) ?_
      exact j_zreturn E (Or.inl rfl) ⟨rfl, _, rfl, (Or.inl rfl), h⟩ (Nat.zero_le _) (Nat.zero_le _) dX9_readLine_43
    · have h := h.2 c27
      refine j_aload_n E dX9_readLine_32 1 rfl ?_
      refine j_aload_n E dX9_readLine_33 2 rfl ?_
      refine j_bipush E (v := 44) dX9_readLine_34 (by decide) ?_
      refine j_callV E [.ref v1, .int (44 : Int32)] [] (c_X9_readMark (gL G) (gD G) (gY G) v0 v1 (44 : Int32) Z I22 L23 _ hZ kv0 kv1 h) (gwV W_406 W_407 W_408 W_378 W_405) rfl ⟨rfl, fy_X9_readMark⟩ ⟨by decide, by decide⟩ (c := 9) rfl (by decide) kv0 rfl rfl (Nat.le_of_ble_eq_true rfl) ⟨Nat.zero_le _, Nat.zero_le _⟩ dX9_readLine_36 (fun v28 Z29 I30 L31 q32 => ?_)
      obtain ⟨rfl, r34, rfl, zr34, h⟩ := q32
      show jJ G 9 39 [(2, .int r26), (0, .ref v0), (1, .ref v1)] [.int r34] Z I30 L31 0 0
      refine j_if_ne E 44 dX9_readLine_39 (by decide) (fun c35 => ?_) (fun c35 => ?_)
      · have h := h.1 c35
        refine j_aload_n E dX9_readLine_44 1 rfl ?_
        refine j_aload_n E dX9_readLine_45 2 rfl ?_
        refine j_iconst E (v := 0) dX9_readLine_46 (by decide) ?_
        refine j_bipush E (v := 9) dX9_readLine_47 (by decide) ?_
        refine j_callV E [.ref v1, .int (0 : Int32), .int (9 : Int32)] [] (c_X9_readNumber (gL G) (gD G) (gY G) v0 v1 (0 : Int32) (9 : Int32) Z I30 L31 _ hZ kv0 kv1 h) (gwV W_389 W_390 W_391 W_378 W_388) rfl ⟨rfl, fy_X9_readNumber⟩ ⟨by decide, by decide⟩ (c := 9) rfl (by decide) kv0 rfl rfl (Nat.le_of_ble_eq_true rfl) ⟨Nat.zero_le _, Nat.zero_le _⟩ dX9_readLine_49 (fun v36 Z37 I38 L39 q40 => ?_)
        obtain ⟨rfl, r42, rfl, h⟩ := q40
        show jJ G 9 52 [(2, .int r26), (0, .ref v0), (1, .ref v1)] [.int r42] Z I38 L39 0 0
        refine j_istore_n E 3 [(3, .int r42), (2, .int r26), (0, .ref v0), (1, .ref v1)] dX9_readLine_52 rfl (by decide) rfl ?_
        refine j_iload_n E dX9_readLine_53 0 rfl ?_
        refine j_iconst E (v := -1) dX9_readLine_54 (by decide) ?_
        refine j_icmp_eq E 68 dX9_readLine_55 (by decide) (fun c43 => ?_) (fun c43 => ?_)
        · have h := h.1 c43
          refine j_iconst E (v := 0) dX9_readLine_68 (by decide) ?_
          exact j_zreturn E (Or.inl rfl) ⟨rfl, _, rfl, (Or.inl rfl), h⟩ (Nat.zero_le _) (Nat.zero_le _) dX9_readLine_69
        · have h := h.2 c43
          refine j_aload_n E dX9_readLine_58 2 rfl ?_
          refine j_aload_n E dX9_readLine_59 3 rfl ?_
          refine j_bipush E (v := 44) dX9_readLine_60 (by decide) ?_
          refine j_callV E [.ref v1, .int (44 : Int32)] [] (c_X9_readMark (gL G) (gD G) (gY G) v0 v1 (44 : Int32) Z I38 L39 _ hZ kv0 kv1 h) (gwV W_406 W_407 W_408 W_378 W_405) rfl ⟨rfl, fy_X9_readMark⟩ ⟨by decide, by decide⟩ (c := 9) rfl (by decide) kv0 rfl rfl (Nat.le_of_ble_eq_true rfl) ⟨Nat.zero_le _, Nat.zero_le _⟩ dX9_readLine_62 (fun v44 Z45 I46 L47 q48 => ?_)
          obtain ⟨rfl, r50, rfl, zr50, h⟩ := q48
          show jJ G 9 65 [(3, .int r42), (2, .int r26), (0, .ref v0), (1, .ref v1)] [.int r50] Z I46 L47 0 0
          refine j_if_ne E 70 dX9_readLine_65 (by decide) (fun c51 => ?_) (fun c51 => ?_)
          · have h := h.1 c51
            refine j_aload_n E dX9_readLine_70 2 rfl ?_
            refine j_aload_n E dX9_readLine_71 3 rfl ?_
            refine j_iconst E (v := 0) dX9_readLine_72 (by decide) ?_
            refine j_bipush E (v := 20) dX9_readLine_73 (by decide) ?_
            refine j_callV E [.ref v1, .int (0 : Int32), .int (20 : Int32)] [] (c_X9_readNumber (gL G) (gD G) (gY G) v0 v1 (0 : Int32) (20 : Int32) Z I46 L47 _ hZ kv0 kv1 h) (gwV W_389 W_390 W_391 W_378 W_388) rfl ⟨rfl, fy_X9_readNumber⟩ ⟨by decide, by decide⟩ (c := 9) rfl (by decide) kv0 rfl rfl (Nat.le_of_ble_eq_true rfl) ⟨Nat.zero_le _, Nat.zero_le _⟩ dX9_readLine_75 (fun v52 Z53 I54 L55 q56 => ?_)
            obtain ⟨rfl, r58, rfl, h⟩ := q56
            show jJ G 9 78 [(3, .int r42), (2, .int r26), (0, .ref v0), (1, .ref v1)] [.int r58] Z I54 L55 0 0
            refine j_istore E 4 [(4, .int r58), (3, .int r42), (2, .int r26), (0, .ref v0), (1, .ref v1)] dX9_readLine_78 (by decide) rfl ?_
            refine j_iload E dX9_readLine_80 0 rfl ?_
            refine j_iconst E (v := -1) dX9_readLine_82 (by decide) ?_
            refine j_icmp_eq E 96 dX9_readLine_83 (by decide) (fun c59 => ?_) (fun c59 => ?_)
            · have h := h.1 c59
              refine j_iconst E (v := 0) dX9_readLine_96 (by decide) ?_
              exact j_zreturn E (Or.inl rfl) ⟨rfl, _, rfl, (Or.inl rfl), h⟩ (Nat.zero_le _) (Nat.zero_le _) dX9_readLine_97
            · have h := h.2 c59
              refine j_aload_n E dX9_readLine_86 3 rfl ?_
              refine j_aload_n E dX9_readLine_87 4 rfl ?_
              refine j_bipush E (v := 64) dX9_readLine_88 (by decide) ?_
              refine j_callV E [.ref v1, .int (64 : Int32)] [] (c_X9_readMark (gL G) (gD G) (gY G) v0 v1 (64 : Int32) Z I54 L55 _ hZ kv0 kv1 h) (gwV W_406 W_407 W_408 W_378 W_405) rfl ⟨rfl, fy_X9_readMark⟩ ⟨by decide, by decide⟩ (c := 9) rfl (by decide) kv0 rfl rfl (Nat.le_of_ble_eq_true rfl) ⟨Nat.zero_le _, Nat.zero_le _⟩ dX9_readLine_90 (fun v60 Z61 I62 L63 q64 => ?_)
              obtain ⟨rfl, r66, rfl, zr66, h⟩ := q64
              show jJ G 9 93 [(4, .int r58), (3, .int r42), (2, .int r26), (0, .ref v0), (1, .ref v1)] [.int r66] Z I62 L63 0 0
              refine j_if_ne E 98 dX9_readLine_93 (by decide) (fun c67 => ?_) (fun c67 => ?_)
              · have h := h.1 c67
                refine j_aload_n E dX9_readLine_98 3 rfl ?_
                refine j_aload_n E dX9_readLine_99 4 rfl ?_
                refine j_callV E [.ref v1] [] (c_X9_readFamily (gL G) (gD G) (gY G) v0 v1 Z I62 L63 _ hZ kv0 kv1 h) (gwV W_410 W_411 W_412 W_378 W_409) rfl ⟨rfl, fy_X9_readFamily⟩ ⟨by decide, by decide⟩ (c := 9) rfl (by decide) kv0 rfl rfl (Nat.le_of_ble_eq_true rfl) ⟨Nat.zero_le _, Nat.zero_le _⟩ dX9_readLine_100 (fun v68 Z69 I70 L71 q72 => ?_)
                obtain ⟨rfl, r74, rfl, h⟩ := q72
                show jJ G 9 103 [(4, .int r58), (3, .int r42), (2, .int r26), (0, .ref v0), (1, .ref v1)] [.int r74] Z I70 L71 0 0
                refine j_istore E 5 [(5, .int r74), (4, .int r58), (3, .int r42), (2, .int r26), (0, .ref v0), (1, .ref v1)] dX9_readLine_103 (by decide) rfl ?_
                refine j_iload E dX9_readLine_105 0 rfl ?_
                refine j_iconst E (v := -1) dX9_readLine_107 (by decide) ?_
                refine j_icmp_ne E 113 dX9_readLine_108 (by decide) (fun c75 => ?_) (fun c75 => ?_)
                · have h := h.1 c75
                  refine j_aload_n E dX9_readLine_113 4 rfl ?_
                  refine j_aload_n E dX9_readLine_114 5 rfl ?_
                  refine j_callV E [.ref v1] [] (c_X9_look (gL G) (gD G) (gY G) v0 v1 Z I70 L71 _ hZ kv0 kv1 h) (gwV W_383 W_384 W_385 W_378 W_382) rfl ⟨rfl, fy_X9_look⟩ ⟨by decide, by decide⟩ (c := 9) rfl (by decide) kv0 rfl rfl (Nat.le_of_ble_eq_true rfl) ⟨Nat.zero_le _, Nat.zero_le _⟩ dX9_readLine_115 (fun v76 Z77 I78 L79 q80 => ?_)
                  obtain ⟨rfl, r82, rfl, h⟩ := q80
                  show jJ G 9 118 [(5, .int r74), (4, .int r58), (3, .int r42), (2, .int r26), (0, .ref v0), (1, .ref v1)] [.int r82] Z I78 L79 0 0
                  refine j_bipush E (v := 119) dX9_readLine_118 (by decide) ?_
                  refine j_icmp_ne E 127 dX9_readLine_120 (by decide) (fun c83 => ?_) (fun c83 => ?_)
                  · have h := h.1 c83
                    refine j_iconst E (v := 0) dX9_readLine_127 (by decide) ?_
                    refine j_sub [4, 5, 3, 2, 1, 0] rfl ?_
                    exact m_X9_readLine_b128 E hZ  v0 v1 r26 r42 r58 r74 (0 : Int32) I78 L79 kv0 kv1 h
                  · have h := h.2 c83
                    refine j_iconst E (v := 1) dX9_readLine_123 (by decide) ?_
                    refine j_goto E 128 dX9_readLine_124 (by decide) ?_
                    refine j_sub [4, 5, 3, 2, 1, 0] rfl ?_
                    exact m_X9_readLine_b128 E hZ  v0 v1 r26 r42 r58 r74 (1 : Int32) I78 L79 kv0 kv1 h
                · have h := h.2 c75
                  refine j_iconst E (v := 0) dX9_readLine_111 (by decide) ?_
                  exact j_zreturn E (Or.inl rfl) ⟨rfl, _, rfl, (Or.inl rfl), h⟩ (Nat.zero_le _) (Nat.zero_le _) dX9_readLine_112
              · have h := h.2 c67
                refine j_iconst E (v := 0) dX9_readLine_96 (by decide) ?_
                exact j_zreturn E (Or.inl rfl) ⟨rfl, _, rfl, (Or.inl rfl), h⟩ (Nat.zero_le _) (Nat.zero_le _) dX9_readLine_97
          · have h := h.2 c51
            refine j_iconst E (v := 0) dX9_readLine_68 (by decide) ?_
            exact j_zreturn E (Or.inl rfl) ⟨rfl, _, rfl, (Or.inl rfl), h⟩ (Nat.zero_le _) (Nat.zero_le _) dX9_readLine_69
      · have h := h.2 c35
        refine j_iconst E (v := 0) dX9_readLine_42 (by decide) ?_
        exact j_zreturn E (Or.inl rfl) ⟨rfl, _, rfl, (Or.inl rfl), h⟩ (Nat.zero_le _) (Nat.zero_le _) dX9_readLine_43
  · have h := h.2 c19
    refine j_aload_n E dX9_readLine_9 0 rfl ?_
    refine j_aload_n E dX9_readLine_10 0 rfl ?_
    refine j_geti E 9 6 rfl rfl (by decide) (by decide) (iw iT_9) rfl rfl (tw W_374) kv0 dX9_readLine_11 ?_
    refine j_callV E [.int (I v0 6)] [] (c_X9_fail (gL G) (gD G) (gY G) v0 (I v0 6) Z I L _ hZ kv0 h) (gwV W_379 W_380 W_381 W_378 W_377) rfl ⟨rfl, fy_X9_fail⟩ ⟨by decide, by decide⟩ (c := 9) rfl (by decide) kv0 rfl rfl (Nat.le_of_ble_eq_true rfl) ⟨Nat.zero_le _, Nat.zero_le _⟩ dX9_readLine_14 (fun v84 Z85 I86 L87 q88 => ?_)
    obtain ⟨rfl, r90, rfl, zr90, h⟩ := q88
    show jJ G 9 17 [(0, .ref v0), (1, .ref v1)] [.int r90] Z I86 L87 0 0
    exact j_zreturn E zr90 ⟨rfl, _, rfl, zr90, h⟩ (Nat.zero_le _) (Nat.zero_le _) dX9_readLine_17
set_option maxRecDepth 100000 in
def f_X9_readBreak (v0 : Nat) (v1 : Nat) (Z : jZ) (I : jI) (L : jL) (Q : Int32 → jI → jL → Prop) : Prop := (((I v0 7) ≤ (I v0 6) → Q (0 : Int32) I L) ∧ (¬ ((I v0 7) ≤ (I v0 6)) → (f_X9_readMark v0 v1 (59 : Int32) Z I L (fun r8 I4 L5 => ((r8 = 0 → Q (0 : Int32) I4 L5) ∧ (¬ (r8 = 0) → Q (1 : Int32) I4 L5))))))
set_option maxHeartbeats 4000000 in
set_option maxRecDepth 100000 in
theorem c_X9_readBreak (l : Launch) (D : va_G) (cy : jC) (v0 : Nat) (v1 : Nat) (Z : jZ) (I : jI) (L : jL) (Q : Int32 → jI → jL → Prop) (hZ : SH Z) (kv0 : jk Z v0 9) (kv1 : jk Z v1 10) (h : f_X9_readBreak v0 v1 Z I L Q) : jCt l yX9_readBreak w_X9_readBreak { frames := 3, cells := 0, slots := 0, locals := 64 } D cy [.ref v0, .ref v1] Z I L (rtZ Z Q) := by
  refine jCt_of (cc := cX9_readBreak) (maxL := 2) (ret := (some .boolean)) (by decide +kernel) rfl (Nat.le_of_ble_eq_true rfl) ?_
  intro G eD eY eL E
  subst eD; subst eY; subst eL
  have E : jE G cX9_readBreak RX9 w_X9_readBreak 2 (some .boolean) { frames := 3, cells := 0, slots := 0, locals := 64 } (rtZ Z Q) := E
  show jJ G 2 0 [(0, .ref v0), (1, .ref v1)] [] Z I L 0 0
  refine j_aload_n E dX9_readBreak_0 0 rfl ?_
  refine j_geti E 9 6 rfl rfl (by decide) (by decide) (iw iT_9) rfl rfl (tw W_374) kv0 dX9_readBreak_1 ?_
  refine j_aload_n E dX9_readBreak_4 0 rfl ?_
  refine j_geti E 9 7 rfl rfl (by decide) (by decide) (iw iT_9) rfl rfl (tw W_375) kv0 dX9_readBreak_5 ?_
  refine j_icmp_ge E 25 dX9_readBreak_8 (by decide) (fun c1 => ?_) (fun c1 => ?_)
  · have h := h.1 c1
    refine j_iconst E (v := 0) dX9_readBreak_25 (by decide) ?_
    exact j_zreturn E (Or.inl rfl) ⟨rfl, _, rfl, (Or.inl rfl), h⟩ (Nat.zero_le _) (Nat.zero_le _) dX9_readBreak_26
  · have h := h.2 c1
    refine j_aload_n E dX9_readBreak_11 0 rfl ?_
    refine j_aload_n E dX9_readBreak_12 1 rfl ?_
    refine j_bipush E (v := 59) dX9_readBreak_13 (by decide) ?_
    refine j_callV E [.ref v1, .int (59 : Int32)] [] (c_X9_readMark (gL G) (gD G) (gY G) v0 v1 (59 : Int32) Z I L _ hZ kv0 kv1 h) (gwV W_406 W_407 W_408 W_378 W_405) rfl ⟨rfl, fy_X9_readMark⟩ ⟨by decide, by decide⟩ (c := 9) rfl (by decide) kv0 rfl rfl (Nat.le_of_ble_eq_true rfl) ⟨Nat.zero_le _, Nat.zero_le _⟩ dX9_readBreak_15 (fun v2 Z3 I4 L5 q6 => ?_)
    obtain ⟨rfl, r8, rfl, zr8, h⟩ := q6
    show jJ G 2 18 [(0, .ref v0), (1, .ref v1)] [.int r8] Z I4 L5 0 0
    refine j_if_eq E 25 dX9_readBreak_18 (by decide) (fun c9 => ?_) (fun c9 => ?_)
    · have h := h.1 c9
      refine j_iconst E (v := 0) dX9_readBreak_25 (by decide) ?_
      exact j_zreturn E (Or.inl rfl) ⟨rfl, _, rfl, (Or.inl rfl), h⟩ (Nat.zero_le _) (Nat.zero_le _) dX9_readBreak_26
    · have h := h.2 c9
      refine j_iconst E (v := 1) dX9_readBreak_21 (by decide) ?_
      refine j_goto E 26 dX9_readBreak_22 (by decide) ?_
      exact j_zreturn E (Or.inr rfl) ⟨rfl, _, rfl, (Or.inr rfl), h⟩ (Nat.zero_le _) (Nat.zero_le _) dX9_readBreak_26
set_option maxRecDepth 100000 in
def f_X9_read_b104  (Z : jZ) (Q : Int32 → jI → jL → Prop) (v0 : Nat) (I : jI) (L : jL) : Prop := (((I v0 8) = (-1 : Int32) → (((2 : Int32) ≤ (I v0 5) → Q (I v0 5) I L) ∧ (¬ ((2 : Int32) ≤ (I v0 5)) → Q (-100 : Int32) I L))) ∧ (¬ ((I v0 8) = (-1 : Int32)) → Q ((-1 : Int32) - (I v0 8)) I L))
set_option maxHeartbeats 4000000 in
set_option maxRecDepth 100000 in
theorem m_X9_read_b104 {G : jG} {Z : jZ} {Q : Int32 → jI → jL → Prop} (E : jE G cX9_read RX9 w_X9_read 4 (some .int) { frames := 5, cells := 0, slots := 0, locals := 117 } (rtI Z Q)) (hZ : SH Z)  (v0 : Nat) (I : jI) (L : jL) (kv0 : jk Z v0 9) (h : f_X9_read_b104  Z Q v0 I L) : jJ G 4 104 [(0, .ref v0)] [] Z I L 0 0 := by
  refine j_aload_n E dX9_read_104 0 rfl ?_
  refine j_geti E 9 8 rfl rfl (by decide) (by decide) (iw iT_9) rfl rfl (tw W_373) kv0 dX9_read_105 ?_
  refine j_iconst E (v := -1) dX9_read_108 (by decide) ?_
  refine j_icmp_eq E 119 dX9_read_109 (by decide) (fun c1 => ?_) (fun c1 => ?_)
  · have h := h.1 c1
    refine j_aload_n E dX9_read_119 0 rfl ?_
    refine j_geti E 9 5 rfl rfl (by decide) (by decide) (iw iT_9) rfl rfl (tw W_387) kv0 dX9_read_120 ?_
    refine j_iconst E (v := 2) dX9_read_123 (by decide) ?_
    refine j_icmp_ge E 132 dX9_read_124 (by decide) (fun c2 => ?_) (fun c2 => ?_)
    · have h := h.1 c2
      refine j_aload_n E dX9_read_132 0 rfl ?_
      refine j_geti E 9 5 rfl rfl (by decide) (by decide) (iw iT_9) rfl rfl (tw W_387) kv0 dX9_read_133 ?_
      exact j_ireturn E ⟨rfl, _, rfl, h⟩ (Nat.zero_le _) (Nat.zero_le _) dX9_read_136
    · have h := h.2 c2
      refine j_bipush E (v := -100) dX9_read_127 (by decide) ?_
      refine j_goto E 136 dX9_read_129 (by decide) ?_
      exact j_ireturn E ⟨rfl, _, rfl, h⟩ (Nat.zero_le _) (Nat.zero_le _) dX9_read_136
  · have h := h.2 c1
    refine j_iconst E (v := -1) dX9_read_112 (by decide) ?_
    refine j_aload_n E dX9_read_113 0 rfl ?_
    refine j_geti E 9 8 rfl rfl (by decide) (by decide) (iw iT_9) rfl rfl (tw W_373) kv0 dX9_read_114 ?_
    refine j_isub E dX9_read_117 ?_
    exact j_ireturn E ⟨rfl, _, rfl, h⟩ (Nat.zero_le _) (Nat.zero_le _) dX9_read_118
set_option maxRecDepth 100000 in
def f_X9_read_b81  (Z : jZ) (Q : Int32 → jI → jL → Prop) (v0 : Nat) (v1 : Nat) (I : jI) (L : jL) : Prop := ((¬ (I v0 8) = (-1 : Int32) → f_X9_read_b104  Z Q v0 I L) ∧ ((I v0 8) = (-1 : Int32) → (((I v1 1) ≤ (76 : Int32) → f_X9_read_b104  Z Q v0 I L) ∧ (¬ ((I v1 1) ≤ (76 : Int32)) → (∀ I5 : jI, I5 = jpI I v0 8 (76 : Int32) → f_X9_read_b104  Z Q v0 I5 L)))))
set_option maxHeartbeats 4000000 in
set_option maxRecDepth 100000 in
theorem m_X9_read_b81 {G : jG} {Z : jZ} {Q : Int32 → jI → jL → Prop} (E : jE G cX9_read RX9 w_X9_read 4 (some .int) { frames := 5, cells := 0, slots := 0, locals := 117 } (rtI Z Q)) (hZ : SH Z)  (v0 : Nat) (v1 : Nat) (I : jI) (L : jL) (kv0 : jk Z v0 9) (kv1 : jk Z v1 10) (h : f_X9_read_b81  Z Q v0 v1 I L) : jJ G 4 81 [(0, .ref v0), (1, .ref v1)] [] Z I L 0 0 := by
  refine j_aload_n E dX9_read_81 0 rfl ?_
  refine j_geti E 9 8 rfl rfl (by decide) (by decide) (iw iT_9) rfl rfl (tw W_373) kv0 dX9_read_82 ?_
  refine j_iconst E (v := -1) dX9_read_85 (by decide) ?_
  refine j_icmp_ne E 104 dX9_read_86 (by decide) (fun c3 => ?_) (fun c3 => ?_)
  · have h := h.1 c3
    refine j_sub [0] rfl ?_
    exact m_X9_read_b104 E hZ  v0 I L kv0 h
  · have h := h.2 c3
    refine j_aload_n E dX9_read_89 1 rfl ?_
    refine j_getiN E 10 1 rfl rfl (by decide) (by decide) (iw iT_10) rfl rfl (nw_10_1_X9_40) kv1 dX9_read_90 ?_
    refine j_bipush E (v := 76) dX9_read_93 (by decide) ?_
    refine j_icmp_le E 104 dX9_read_95 (by decide) (fun c4 => ?_) (fun c4 => ?_)
    · have h := h.1 c4
      refine j_sub [0] rfl ?_
      exact m_X9_read_b104 E hZ  v0 I L kv0 h
    · have h := h.2 c4
      refine j_aload_n E dX9_read_98 0 rfl ?_
      refine j_bipush E (v := 76) dX9_read_99 (by decide) ?_
      refine j_puti E 9 8 rfl rfl (by decide) (by decide) (iw iT_9) tyX9_ok nmX9 rfl rfl (tw W_373) rfl rfl rfl kv0 dX9_read_101 ?_
      refine j_nmI (fun I5 eI5 => ?_)
      have h := h I5 eI5
      refine j_sub [0] rfl ?_
      exact m_X9_read_b104 E hZ  v0 I5 L kv0 h
set_option maxRecDepth 100000 in
def f_X9_read_b74 (K43 : Nat → Nat → Int32 → Int32 → jI → jL → Prop) (Z : jZ) (Q : Int32 → jI → jL → Prop) (v0 : Nat) (v1 : Nat) (v3 : Int32) (s0 : Int32) (I : jI) (L : jL) : Prop := (∀ x6 : Int32, x6 = v3 + 1 → K43 v0 v1 s0 x6 I L)
set_option maxHeartbeats 4000000 in
set_option maxRecDepth 100000 in
theorem m_X9_read_b74 {G : jG} {Z : jZ} {Q : Int32 → jI → jL → Prop} (E : jE G cX9_read RX9 w_X9_read 4 (some .int) { frames := 5, cells := 0, slots := 0, locals := 117 } (rtI Z Q)) (hZ : SH Z) (K43 : Nat → Nat → Int32 → Int32 → jI → jL → Prop) (hK43 : ∀ (v0 : Nat) (v1 : Nat) (v2 : Int32) (v3 : Int32) (I : jI) (L : jL), jk Z v0 9 → jk Z v1 10 → K43 v0 v1 v2 v3 I L → jJ G 4 43 [(0, .ref v0), (1, .ref v1), (2, .int v2), (3, .int v3)] [] Z I L 0 0) (v0 : Nat) (v1 : Nat) (v3 : Int32) (s0 : Int32) (I : jI) (L : jL) (kv0 : jk Z v0 9) (kv1 : jk Z v1 10) (h : f_X9_read_b74 K43 Z Q v0 v1 v3 s0 I L) : jJ G 4 74 [(0, .ref v0), (1, .ref v1), (3, .int v3)] [.int s0] Z I L 0 0 := by
  refine j_istore_n E 2 [(2, .int s0), (0, .ref v0), (1, .ref v1), (3, .int v3)] dX9_read_74 rfl (by decide) rfl ?_
  obtain ⟨x6, ex6⟩ : ∃ y : Int32, y = v3 + 1 := ⟨_, rfl⟩
  have h := h x6 ex6
  refine j_iinc E x6 [(3, .int x6), (2, .int s0), (0, .ref v0), (1, .ref v1)] dX9_read_75 3 rfl (by rw [ex6]; rfl) (by decide) rfl ?_
  refine j_goto E 43 dX9_read_78 (by decide) ?_
  refine j_sub [2, 3, 1, 0] rfl ?_
  exact hK43 v0 v1 s0 x6 I L kv0 kv1 h
set_option maxRecDepth 100000 in
def f_X9_read_b73 (K43 : Nat → Nat → Int32 → Int32 → jI → jL → Prop) (Z : jZ) (Q : Int32 → jI → jL → Prop) (v0 : Nat) (v1 : Nat) (v3 : Int32) (I : jI) (L : jL) : Prop := f_X9_read_b74 K43 Z Q v0 v1 v3 (0 : Int32) I L
set_option maxHeartbeats 4000000 in
set_option maxRecDepth 100000 in
theorem m_X9_read_b73 {G : jG} {Z : jZ} {Q : Int32 → jI → jL → Prop} (E : jE G cX9_read RX9 w_X9_read 4 (some .int) { frames := 5, cells := 0, slots := 0, locals := 117 } (rtI Z Q)) (hZ : SH Z) (K43 : Nat → Nat → Int32 → Int32 → jI → jL → Prop) (hK43 : ∀ (v0 : Nat) (v1 : Nat) (v2 : Int32) (v3 : Int32) (I : jI) (L : jL), jk Z v0 9 → jk Z v1 10 → K43 v0 v1 v2 v3 I L → jJ G 4 43 [(0, .ref v0), (1, .ref v1), (2, .int v2), (3, .int v3)] [] Z I L 0 0) (v0 : Nat) (v1 : Nat) (v3 : Int32) (I : jI) (L : jL) (kv0 : jk Z v0 9) (kv1 : jk Z v1 10) (h : f_X9_read_b73 K43 Z Q v0 v1 v3 I L) : jJ G 4 73 [(0, .ref v0), (1, .ref v1), (3, .int v3)] [] Z I L 0 0 := by
  refine j_iconst E (v := 0) dX9_read_73 (by decide) ?_
  refine j_sub [0, 1, 2] rfl ?_
  exact m_X9_read_b74 E hZ K43 hK43 v0 v1 v3 (0 : Int32) I L kv0 kv1 h
set_option maxRecDepth 100000 in
def f_X9_read_L43  (Z : jZ) (Q : Int32 → jI → jL → Prop) : Nat → Nat → Nat → Int32 → Int32 → jI → jL → Prop
  | 0 => fun _ _ _ _ _ _ => False
  | n + 1 => fun v0 v1 v2 v3 I L => ((v2 = 0 → f_X9_read_b81  Z Q v0 v1 I L) ∧ (¬ (v2 = 0) → (((76 : Int32) ≤ v3 → f_X9_read_b81  Z Q v0 v1 I L) ∧ (¬ ((76 : Int32) ≤ v3) → (f_X9_readLine v0 v1 Z I L (fun r15 I11 L12 => ((r15 = 0 → f_X9_read_b73 (f_X9_read_L43 Z Q n) Z Q v0 v1 v3 I11 L12) ∧ (¬ (r15 = 0) → (f_X9_readBreak v0 v1 Z I11 L12 (fun r23 I19 L20 => ((r23 = 0 → f_X9_read_b73 (f_X9_read_L43 Z Q n) Z Q v0 v1 v3 I19 L20) ∧ (¬ (r23 = 0) → f_X9_read_b74 (f_X9_read_L43 Z Q n) Z Q v0 v1 v3 (1 : Int32) I19 L20))))))))))))
set_option maxHeartbeats 4000000 in
set_option maxRecDepth 100000 in
theorem m_X9_read_L43 {G : jG} {Z : jZ} {Q : Int32 → jI → jL → Prop} (E : jE G cX9_read RX9 w_X9_read 4 (some .int) { frames := 5, cells := 0, slots := 0, locals := 117 } (rtI Z Q)) (hZ : SH Z)  : ∀ (n : Nat) (v0 : Nat) (v1 : Nat) (v2 : Int32) (v3 : Int32) (I : jI) (L : jL), jk Z v0 9 → jk Z v1 10 → f_X9_read_L43  Z Q n v0 v1 v2 v3 I L → jJ G 4 43 [(0, .ref v0), (1, .ref v1), (2, .int v2), (3, .int v3)] [] Z I L 0 0 := by
  intro n
  induction n with
  | zero => intro v0 v1 v2 v3 I L _ _ h; exact h.elim
  | succ n ih =>
    intro v0 v1 v2 v3 I L kv0 kv1 h
    have h : ((v2 = 0 → f_X9_read_b81  Z Q v0 v1 I L) ∧ (¬ (v2 = 0) → (((76 : Int32) ≤ v3 → f_X9_read_b81  Z Q v0 v1 I L) ∧ (¬ ((76 : Int32) ≤ v3) → (f_X9_readLine v0 v1 Z I L (fun r15 I11 L12 => ((r15 = 0 → f_X9_read_b73 (f_X9_read_L43 Z Q n) Z Q v0 v1 v3 I11 L12) ∧ (¬ (r15 = 0) → (f_X9_readBreak v0 v1 Z I11 L12 (fun r23 I19 L20 => ((r23 = 0 → f_X9_read_b73 (f_X9_read_L43 Z Q n) Z Q v0 v1 v3 I19 L20) ∧ (¬ (r23 = 0) → f_X9_read_b74 (f_X9_read_L43 Z Q n) Z Q v0 v1 v3 (1 : Int32) I19 L20)))))))))))) := h
    obtain ⟨K43, eK43⟩ : ∃ K : Nat → Nat → Int32 → Int32 → jI → jL → Prop, K = f_X9_read_L43  Z Q n := ⟨_, rfl⟩
    have hK43 := ih
    clear eK43 K43
    generalize f_X9_read_L43  Z Q n = K43 at hK43 h
    refine j_iload_n E dX9_read_43 2 rfl ?_
    refine j_if_eq E 81 dX9_read_44 (by decide) (fun c7 => ?_) (fun c7 => ?_)
    · have h := h.1 c7
      refine j_sub [0, 1] rfl ?_
      exact m_X9_read_b81 E hZ  v0 v1 I L kv0 kv1 h
    · have h := h.2 c7
      refine j_iload_n E dX9_read_47 3 rfl ?_
      refine j_bipush E (v := 76) dX9_read_48 (by decide) ?_
      refine j_icmp_ge E 81 dX9_read_50 (by decide) (fun c8 => ?_) (fun c8 => ?_)
      · have h := h.1 c8
        refine j_sub [0, 1] rfl ?_
        exact m_X9_read_b81 E hZ  v0 v1 I L kv0 kv1 h
      · have h := h.2 c8
        refine j_aload_n E dX9_read_53 0 rfl ?_
        refine j_aload_n E dX9_read_54 1 rfl ?_
        refine j_callV E [.ref v1] [] (c_X9_readLine (gL G) (gD G) (gY G) v0 v1 Z I L _ hZ kv0 kv1 h) (gwV W_414 W_415 W_416 W_378 W_413) rfl ⟨rfl, fy_X9_readLine⟩ ⟨by decide, by decide⟩ (c := 9) rfl (by decide) kv0 rfl rfl (Nat.le_of_ble_eq_true rfl) ⟨Nat.zero_le _, Nat.zero_le _⟩ dX9_read_55 (fun v9 Z10 I11 L12 q13 => ?_)
        obtain ⟨rfl, r15, rfl, zr15, h⟩ := q13
        show jJ G 4 58 [(0, .ref v0), (1, .ref v1), (2, .int v2), (3, .int v3)] [.int r15] Z I11 L12 0 0
        refine j_if_eq E 73 dX9_read_58 (by decide) (fun c16 => ?_) (fun c16 => ?_)
        · have h := h.1 c16
          refine j_sub [0, 1, 3] rfl ?_
          exact m_X9_read_b73 E hZ K43 hK43 v0 v1 v3 I11 L12 kv0 kv1 h
        · have h := h.2 c16
          refine j_aload_n E dX9_read_61 0 rfl ?_
          refine j_aload_n E dX9_read_62 1 rfl ?_
          refine j_callV E [.ref v1] [] (c_X9_readBreak (gL G) (gD G) (gY G) v0 v1 Z I11 L12 _ hZ kv0 kv1 h) (gwV W_418 W_419 W_420 W_378 W_417) rfl ⟨rfl, fy_X9_readBreak⟩ ⟨by decide, by decide⟩ (c := 9) rfl (by decide) kv0 rfl rfl (Nat.le_of_ble_eq_true rfl) ⟨Nat.zero_le _, Nat.zero_le _⟩ dX9_read_63 (fun v17 Z18 I19 L20 q21 => ?_)
          obtain ⟨rfl, r23, rfl, zr23, h⟩ := q21
          show jJ G 4 66 [(0, .ref v0), (1, .ref v1), (2, .int v2), (3, .int v3)] [.int r23] Z I19 L20 0 0
          refine j_if_eq E 73 dX9_read_66 (by decide) (fun c24 => ?_) (fun c24 => ?_)
          · have h := h.1 c24
            refine j_sub [0, 1, 3] rfl ?_
            exact m_X9_read_b73 E hZ K43 hK43 v0 v1 v3 I19 L20 kv0 kv1 h
          · have h := h.2 c24
            refine j_iconst E (v := 1) dX9_read_69 (by decide) ?_
            refine j_goto E 74 dX9_read_70 (by decide) ?_
            refine j_sub [0, 1, 3] rfl ?_
            exact m_X9_read_b74 E hZ K43 hK43 v0 v1 v3 (1 : Int32) I19 L20 kv0 kv1 h
set_option maxRecDepth 100000 in
def f_X9_read_b40  (Z : jZ) (Q : Int32 → jI → jL → Prop) (v0 : Nat) (v1 : Nat) (s0 : Int32) (I : jI) (L : jL) : Prop := (∃ m43 : Nat, f_X9_read_L43  Z Q m43 v0 v1 s0 (0 : Int32) I L)
set_option maxHeartbeats 4000000 in
set_option maxRecDepth 100000 in
theorem m_X9_read_b40 {G : jG} {Z : jZ} {Q : Int32 → jI → jL → Prop} (E : jE G cX9_read RX9 w_X9_read 4 (some .int) { frames := 5, cells := 0, slots := 0, locals := 117 } (rtI Z Q)) (hZ : SH Z)  (v0 : Nat) (v1 : Nat) (s0 : Int32) (I : jI) (L : jL) (kv0 : jk Z v0 9) (kv1 : jk Z v1 10) (h : f_X9_read_b40  Z Q v0 v1 s0 I L) : jJ G 4 40 [(0, .ref v0), (1, .ref v1)] [.int s0] Z I L 0 0 := by
  refine j_istore_n E 2 [(2, .int s0), (0, .ref v0), (1, .ref v1)] dX9_read_40 rfl (by decide) rfl ?_
  refine j_iconst E (v := 0) dX9_read_41 (by decide) ?_
  refine j_istore_n E 3 [(3, .int (0 : Int32)), (2, .int s0), (0, .ref v0), (1, .ref v1)] dX9_read_42 rfl (by decide) rfl ?_
  obtain ⟨n25, h⟩ := h
  refine j_sub [2, 3, 1, 0] rfl ?_
  exact m_X9_read_L43 E hZ  n25 v0 v1 s0 (0 : Int32) I L kv0 kv1 h
set_option maxRecDepth 100000 in
def f_X9_read (v0 : Nat) (v1 : Nat) (Z : jZ) (I : jI) (L : jL) (Q : Int32 → jI → jL → Prop) : Prop := (∀ I26 : jI, I26 = jpI I v0 5 (0 : Int32) → (∀ I27 : jI, I27 = jpI I26 v0 6 (0 : Int32) → (∀ I28 : jI, I28 = jpI I27 v0 8 (-1 : Int32) → (∀ I29 : jI, I29 = jpI I28 v0 7 (if (76 : Int32) < (I28 v1 1) then (76 : Int32) else (I28 v1 1)) → (((I29 v1 1) ≤ 0 → f_X9_read_b40  Z Q v0 v1 (0 : Int32) I29 L) ∧ (¬ ((I29 v1 1) ≤ 0) → f_X9_read_b40  Z Q v0 v1 (1 : Int32) I29 L))))))
set_option maxHeartbeats 4000000 in
set_option maxRecDepth 100000 in
theorem c_X9_read (l : Launch) (D : va_G) (cy : jC) (v0 : Nat) (v1 : Nat) (Z : jZ) (I : jI) (L : jL) (Q : Int32 → jI → jL → Prop) (hZ : SH Z) (kv0 : jk Z v0 9) (kv1 : jk Z v1 10) (h : f_X9_read v0 v1 Z I L Q) : jCt l yX9_read w_X9_read { frames := 5, cells := 0, slots := 0, locals := 117 } D cy [.ref v0, .ref v1] Z I L (rtI Z Q) := by
  refine jCt_of (cc := cX9_read) (maxL := 4) (ret := (some .int)) (by decide +kernel) rfl (Nat.le_of_ble_eq_true rfl) ?_
  intro G eD eY eL E
  subst eD; subst eY; subst eL
  have E : jE G cX9_read RX9 w_X9_read 4 (some .int) { frames := 5, cells := 0, slots := 0, locals := 117 } (rtI Z Q) := E
  show jJ G 4 0 [(0, .ref v0), (1, .ref v1)] [] Z I L 0 0
  refine j_aload_n E dX9_read_0 0 rfl ?_
  refine j_iconst E (v := 0) dX9_read_1 (by decide) ?_
  refine j_puti E 9 5 rfl rfl (by decide) (by decide) (iw iT_9) tyX9_ok nmX9 rfl rfl (tw W_387) rfl rfl rfl kv0 dX9_read_2 ?_
  refine j_nmI (fun I26 eI26 => ?_)
  have h := h I26 eI26
  refine j_aload_n E dX9_read_5 0 rfl ?_
  refine j_iconst E (v := 0) dX9_read_6 (by decide) ?_
  refine j_puti E 9 6 rfl rfl (by decide) (by decide) (iw iT_9) tyX9_ok nmX9 rfl rfl (tw W_374) rfl rfl rfl kv0 dX9_read_7 ?_
  refine j_nmI (fun I27 eI27 => ?_)
  have h := h I27 eI27
  refine j_aload_n E dX9_read_10 0 rfl ?_
  refine j_iconst E (v := -1) dX9_read_11 (by decide) ?_
  refine j_puti E 9 8 rfl rfl (by decide) (by decide) (iw iT_9) tyX9_ok nmX9 rfl rfl (tw W_373) rfl rfl rfl kv0 dX9_read_12 ?_
  refine j_nmI (fun I28 eI28 => ?_)
  have h := h I28 eI28
  refine j_aload_n E dX9_read_15 0 rfl ?_
  refine j_aload_n E dX9_read_16 1 rfl ?_
  refine j_getiN E 10 1 rfl rfl (by decide) (by decide) (iw iT_10) rfl rfl (nw_10_1_X9_40) kv1 dX9_read_17 ?_
  refine j_bipush E (v := 76) dX9_read_20 (by decide) ?_
  refine j_min E (tw W_421) (tw W_7) (tw W_8) (tw W_9) (Nat.le_of_ble_eq_true rfl) (Nat.le_of_ble_eq_true rfl) (Nat.zero_le _) (Nat.zero_le _) dX9_read_22 ?_
  refine j_puti E 9 7 rfl rfl (by decide) (by decide) (iw iT_9) tyX9_ok nmX9 rfl rfl (tw W_375) rfl rfl rfl kv0 dX9_read_25 ?_
  refine j_nmI (fun I29 eI29 => ?_)
  have h := h I29 eI29
  refine j_aload_n E dX9_read_28 1 rfl ?_
  refine j_getiN E 10 1 rfl rfl (by decide) (by decide) (iw iT_10) rfl rfl (nw_10_1_X9_40) kv1 dX9_read_29 ?_
  refine j_if_le E 39 dX9_read_32 (by decide) (fun c30 => ?_) (fun c30 => ?_)
  · have h := h.1 c30
    refine j_iconst E (v := 0) dX9_read_39 (by decide) ?_
    refine j_sub [0, 1] rfl ?_
    exact m_X9_read_b40 E hZ  v0 v1 (0 : Int32) I29 L kv0 kv1 h
  · have h := h.2 c30
    refine j_iconst E (v := 1) dX9_read_35 (by decide) ?_
    refine j_goto E 40 dX9_read_36 (by decide) ?_
    refine j_sub [0, 1] rfl ?_
    exact m_X9_read_b40 E hZ  v0 v1 (1 : Int32) I29 L kv0 kv1 h
set_option maxRecDepth 100000 in
def f_X10_append_L16  (Z : jZ) (Q : Int32 → jI → jL → Prop) : Nat → Nat → Int32 → Int32 → jI → jL → Prop
  | 0 => fun _ _ _ _ _ => False
  | n + 1 => fun v0 v1 v2 I L => ((v2 < 0 → Q (1 : Int32) I L) ∧ (¬ (v2 < 0) → (∀ b2 : Nat, jr Z v0 0 = some b2 → (vp_in (I v0 1) 80 ∧ (∀ I4 : jI, I4 = jpI I b2 (I v0 1).toNatClampNeg (vp_nar .byte ((v1 >>> (v2 &&& 31)).toInt8.toInt32)) → (∀ I5 : jI, I5 = jpI I4 v0 1 ((I4 v0 1) + (1 : Int32)) → (∀ x6 : Int32, x6 = v2 + (-8) → (f_X10_append_L16 Z Q n) v0 v1 x6 I5 L)))))))
set_option maxHeartbeats 4000000 in
set_option maxRecDepth 100000 in
theorem m_X10_append_L16 {G : jG} {Z : jZ} {Q : Int32 → jI → jL → Prop} (E : jE G cX10_append RX10 w_X10_append 3 (some .boolean) { frames := 0, cells := 0, slots := 0, locals := 0 } (rtZ Z Q)) (hZ : SH Z)  : ∀ (n : Nat) (v0 : Nat) (v1 : Int32) (v2 : Int32) (I : jI) (L : jL), jk Z v0 10 → f_X10_append_L16  Z Q n v0 v1 v2 I L → jJ G 3 16 [(0, .ref v0), (1, .int v1), (2, .int v2)] [] Z I L 0 0 := by
  intro n
  induction n with
  | zero => intro v0 v1 v2 I L _ h; exact h.elim
  | succ n ih =>
    intro v0 v1 v2 I L kv0 h
    have h : ((v2 < 0 → Q (1 : Int32) I L) ∧ (¬ (v2 < 0) → (∀ b2 : Nat, jr Z v0 0 = some b2 → (vp_in (I v0 1) 80 ∧ (∀ I4 : jI, I4 = jpI I b2 (I v0 1).toNatClampNeg (vp_nar .byte ((v1 >>> (v2 &&& 31)).toInt8.toInt32)) → (∀ I5 : jI, I5 = jpI I4 v0 1 ((I4 v0 1) + (1 : Int32)) → (∀ x6 : Int32, x6 = v2 + (-8) → (f_X10_append_L16 Z Q n) v0 v1 x6 I5 L))))))) := h
    obtain ⟨K16, eK16⟩ : ∃ K : Nat → Int32 → Int32 → jI → jL → Prop, K = f_X10_append_L16  Z Q n := ⟨_, rfl⟩
    have hK16 := ih
    clear eK16 K16
    generalize f_X10_append_L16  Z Q n = K16 at hK16 h
    refine j_iload_n E dX10_append_16 2 rfl ?_
    refine j_if_lt E 49 dX10_append_17 (by decide) (fun c1 => ?_) (fun c1 => ?_)
    · have h := h.1 c1
      refine j_iconst E (v := 1) dX10_append_49 (by decide) ?_
      exact j_zreturn E (Or.inr rfl) ⟨rfl, _, rfl, (Or.inr rfl), h⟩ (Nat.zero_le _) (Nat.zero_le _) dX10_append_50
    · have h := h.2 c1
      refine j_aload_n E dX10_append_20 0 rfl ?_
      obtain ⟨b2, eb2, kb2, lb2⟩ := sh_f hZ kv0 (j := 0) (k := 13) (m := 80) rfl
      have h := h b2 eb2
      refine j_getr E 10 0 rfl rfl (by decide) (by decide) (iw iT_10) rfl rfl (tw W_185) kv0 eb2 dX10_append_21 ?_
      refine j_aload_n E dX10_append_24 0 rfl ?_
      refine j_geti E 10 1 rfl rfl (by decide) (by decide) (iw iT_10) rfl rfl (tw W_184) kv0 dX10_append_25 ?_
      refine j_iload_n E dX10_append_28 1 rfl ?_
      refine j_iload_n E dX10_append_29 2 rfl ?_
      refine j_ishr E dX10_append_30 ?_
      refine j_i2b E dX10_append_31 ?_
      obtain ⟨o3, h⟩ := h
      refine j_bast E kb2 (by rw [lb2]; exact o3) dX10_append_32 ?_
      refine j_nmI (fun I4 eI4 => ?_)
      have h := h I4 eI4
      refine j_aload_n E dX10_append_33 0 rfl ?_
      refine j_dup E dX10_append_34 rfl ?_
      refine j_geti E 10 1 rfl rfl (by decide) (by decide) (iw iT_10) rfl rfl (tw W_184) kv0 dX10_append_35 ?_
      refine j_iconst E (v := 1) dX10_append_38 (by decide) ?_
      refine j_iadd E dX10_append_39 ?_
      refine j_puti E 10 1 rfl rfl (by decide) (by decide) (iw iT_10) tyX10_ok nmX10 rfl rfl (tw W_184) rfl rfl rfl kv0 dX10_append_40 ?_
      refine j_nmI (fun I5 eI5 => ?_)
      have h := h I5 eI5
      obtain ⟨x6, ex6⟩ : ∃ y : Int32, y = v2 + (-8) := ⟨_, rfl⟩
      have h := h x6 ex6
      refine j_iinc E x6 [(2, .int x6), (0, .ref v0), (1, .int v1)] dX10_append_43 2 rfl (by rw [ex6]; rfl) (by decide) rfl ?_
      refine j_goto E 16 dX10_append_46 (by decide) ?_
      refine j_sub [1, 2, 0] rfl ?_
      exact hK16 v0 v1 x6 I5 L kv0 h
set_option maxRecDepth 100000 in
def f_X10_append (v0 : Nat) (v1 : Int32) (Z : jZ) (I : jI) (L : jL) (Q : Int32 → jI → jL → Prop) : Prop := ((((I v0 1) + (4 : Int32)) ≤ (80 : Int32) → (∃ m16 : Nat, f_X10_append_L16  Z Q m16 v0 v1 (24 : Int32) I L)) ∧ (¬ (((I v0 1) + (4 : Int32)) ≤ (80 : Int32)) → Q (0 : Int32) I L))
set_option maxHeartbeats 4000000 in
set_option maxRecDepth 100000 in
theorem c_X10_append (l : Launch) (D : va_G) (cy : jC) (v0 : Nat) (v1 : Int32) (Z : jZ) (I : jI) (L : jL) (Q : Int32 → jI → jL → Prop) (hZ : SH Z) (kv0 : jk Z v0 10) (h : f_X10_append v0 v1 Z I L Q) : jCt l yX10_append w_X10_append { frames := 0, cells := 0, slots := 0, locals := 0 } D cy [.ref v0, .int v1] Z I L (rtZ Z Q) := by
  refine jCt_of (cc := cX10_append) (maxL := 3) (ret := (some .boolean)) (by decide +kernel) rfl (Nat.le_of_ble_eq_true rfl) ?_
  intro G eD eY eL E
  subst eD; subst eY; subst eL
  have E : jE G cX10_append RX10 w_X10_append 3 (some .boolean) { frames := 0, cells := 0, slots := 0, locals := 0 } (rtZ Z Q) := E
  show jJ G 3 0 [(0, .ref v0), (1, .int v1)] [] Z I L 0 0
  refine j_aload_n E dX10_append_0 0 rfl ?_
  refine j_geti E 10 1 rfl rfl (by decide) (by decide) (iw iT_10) rfl rfl (tw W_184) kv0 dX10_append_1 ?_
  refine j_iconst E (v := 4) dX10_append_4 (by decide) ?_
  refine j_iadd E dX10_append_5 ?_
  refine j_bipush E (v := 80) dX10_append_6 (by decide) ?_
  refine j_icmp_le E 13 dX10_append_8 (by decide) (fun c7 => ?_) (fun c7 => ?_)
  · have h := h.1 c7
    refine j_bipush E (v := 24) dX10_append_13 (by decide) ?_
    refine j_istore_n E 2 [(2, .int (24 : Int32)), (0, .ref v0), (1, .int v1)] dX10_append_15 rfl (by decide) rfl ?_
    obtain ⟨n8, h⟩ := h
    refine j_sub [1, 2, 0] rfl ?_
    exact m_X10_append_L16 E hZ  n8 v0 v1 (24 : Int32) I L kv0 h
  · have h := h.2 c7
    refine j_iconst E (v := 0) dX10_append_11 (by decide) ?_
    exact j_zreturn E (Or.inl rfl) ⟨rfl, _, rfl, (Or.inl rfl), h⟩ (Nat.zero_le _) (Nat.zero_le _) dX10_append_12
set_option maxRecDepth 100000 in
def f_X10_cut (v0 : Nat) (v1 : Int32) (Z : jZ) (I : jI) (L : jL) (Q : Int32 → jI → jL → Prop) : Prop := ((v1 < 0 → Q (0 : Int32) I L) ∧ (¬ (v1 < 0) → ((v1 ≤ (I v0 1) → (∀ I3 : jI, I3 = jpI I v0 1 v1 → Q (1 : Int32) I3 L)) ∧ (¬ (v1 ≤ (I v0 1)) → Q (0 : Int32) I L))))
set_option maxHeartbeats 4000000 in
set_option maxRecDepth 100000 in
theorem c_X10_cut (l : Launch) (D : va_G) (cy : jC) (v0 : Nat) (v1 : Int32) (Z : jZ) (I : jI) (L : jL) (Q : Int32 → jI → jL → Prop) (hZ : SH Z) (kv0 : jk Z v0 10) (h : f_X10_cut v0 v1 Z I L Q) : jCt l yX10_cut w_X10_cut { frames := 0, cells := 0, slots := 0, locals := 0 } D cy [.ref v0, .int v1] Z I L (rtZ Z Q) := by
  refine jCt_of (cc := cX10_cut) (maxL := 2) (ret := (some .boolean)) (by decide +kernel) rfl (Nat.le_of_ble_eq_true rfl) ?_
  intro G eD eY eL E
  subst eD; subst eY; subst eL
  have E : jE G cX10_cut RX10 w_X10_cut 2 (some .boolean) { frames := 0, cells := 0, slots := 0, locals := 0 } (rtZ Z Q) := E
  show jJ G 2 0 [(0, .ref v0), (1, .int v1)] [] Z I L 0 0
  refine j_iload_n E dX10_cut_0 1 rfl ?_
  refine j_if_lt E 12 dX10_cut_1 (by decide) (fun c1 => ?_) (fun c1 => ?_)
  · have h := h.1 c1
    refine j_iconst E (v := 0) dX10_cut_12 (by decide) ?_
    exact j_zreturn E (Or.inl rfl) ⟨rfl, _, rfl, (Or.inl rfl), h⟩ (Nat.zero_le _) (Nat.zero_le _) dX10_cut_13
  · have h := h.2 c1
    refine j_iload_n E dX10_cut_4 1 rfl ?_
    refine j_aload_n E dX10_cut_5 0 rfl ?_
    refine j_geti E 10 1 rfl rfl (by decide) (by decide) (iw iT_10) rfl rfl (tw W_184) kv0 dX10_cut_6 ?_
    refine j_icmp_le E 14 dX10_cut_9 (by decide) (fun c2 => ?_) (fun c2 => ?_)
    · have h := h.1 c2
      refine j_aload_n E dX10_cut_14 0 rfl ?_
      refine j_iload_n E dX10_cut_15 1 rfl ?_
      refine j_puti E 10 1 rfl rfl (by decide) (by decide) (iw iT_10) tyX10_ok nmX10 rfl rfl (tw W_184) rfl rfl rfl kv0 dX10_cut_16 ?_
      refine j_nmI (fun I3 eI3 => ?_)
      have h := h I3 eI3
      refine j_iconst E (v := 1) dX10_cut_19 (by decide) ?_
      exact j_zreturn E (Or.inr rfl) ⟨rfl, _, rfl, (Or.inr rfl), h⟩ (Nat.zero_le _) (Nat.zero_le _) dX10_cut_20
    · have h := h.2 c2
      refine j_iconst E (v := 0) dX10_cut_12 (by decide) ?_
      exact j_zreturn E (Or.inl rfl) ⟨rfl, _, rfl, (Or.inl rfl), h⟩ (Nat.zero_le _) (Nat.zero_le _) dX10_cut_13
set_option maxRecDepth 100000 in
def f_X10_clear (v0 : Nat) (Z : jZ) (I : jI) (L : jL) (Q : jI → jL → Prop) : Prop := (∀ I1 : jI, I1 = jpI I v0 1 (0 : Int32) → Q I1 L)
set_option maxHeartbeats 4000000 in
set_option maxRecDepth 100000 in
theorem c_X10_clear (l : Launch) (D : va_G) (cy : jC) (v0 : Nat) (Z : jZ) (I : jI) (L : jL) (Q : jI → jL → Prop) (hZ : SH Z) (kv0 : jk Z v0 10) (h : f_X10_clear v0 Z I L Q) : jCt l yX10_clear w_X10_clear { frames := 0, cells := 0, slots := 0, locals := 0 } D cy [.ref v0] Z I L (rtV Z Q) := by
  refine jCt_of (cc := cX10_clear) (maxL := 1) (ret := none) (by decide +kernel) rfl (Nat.le_of_ble_eq_true rfl) ?_
  intro G eD eY eL E
  subst eD; subst eY; subst eL
  have E : jE G cX10_clear RX10 w_X10_clear 1 none { frames := 0, cells := 0, slots := 0, locals := 0 } (rtV Z Q) := E
  show jJ G 1 0 [(0, .ref v0)] [] Z I L 0 0
  refine j_aload_n E dX10_clear_0 0 rfl ?_
  refine j_iconst E (v := 0) dX10_clear_1 (by decide) ?_
  refine j_puti E 10 1 rfl rfl (by decide) (by decide) (iw iT_10) tyX10_ok nmX10 rfl rfl (tw W_184) rfl rfl rfl kv0 dX10_clear_2 ?_
  refine j_nmI (fun I1 eI1 => ?_)
  have h := h I1 eI1
  exact j_return E ⟨rfl, rfl, h⟩ (Nat.zero_le _) (Nat.zero_le _) dX10_clear_5
set_option maxRecDepth 100000 in
def f_X11_sign (v0 : Nat) (v1 : Int32) (Z : jZ) (I : jI) (L : jL) (Q : Int32 → jI → jL → Prop) : Prop := (∀ b1 : Nat, jr Z v0 0 = some b1 → (f_X10_append b1 v1 Z I L (fun r8 I4 L5 => ((r8 = 0 → Q (-1 : Int32) I4 L5) ∧ (¬ (r8 = 0) → (∀ b10 : Nat, jr Z v0 0 = some b10 → Q (I4 b10 1) I4 L5))))))
set_option maxHeartbeats 4000000 in
set_option maxRecDepth 100000 in
theorem c_X11_sign (l : Launch) (D : va_G) (cy : jC) (v0 : Nat) (v1 : Int32) (Z : jZ) (I : jI) (L : jL) (Q : Int32 → jI → jL → Prop) (hZ : SH Z) (kv0 : jk Z v0 11) (h : f_X11_sign v0 v1 Z I L Q) : jCt l yX11_sign w_X11_sign { frames := 1, cells := 0, slots := 0, locals := 22 } D cy [.ref v0, .int v1] Z I L (rtI Z Q) := by
  refine jCt_of (cc := cX11_sign) (maxL := 2) (ret := (some .int)) (by decide +kernel) rfl (Nat.le_of_ble_eq_true rfl) ?_
  intro G eD eY eL E
  subst eD; subst eY; subst eL
  have E : jE G cX11_sign RX11 w_X11_sign 2 (some .int) { frames := 1, cells := 0, slots := 0, locals := 22 } (rtI Z Q) := E
  show jJ G 2 0 [(0, .ref v0), (1, .int v1)] [] Z I L 0 0
  refine j_aload_n E dX11_sign_0 0 rfl ?_
  obtain ⟨b1, eb1, kb1⟩ := sh_o hZ kv0 (j := 0) (k := 10) rfl
  have h := h b1 eb1
  refine j_getr E 11 0 rfl rfl (by decide) (by decide) (iw iT_11) rfl rfl (tw W_422) kv0 eb1 dX11_sign_1 ?_
  refine j_iload_n E dX11_sign_4 1 rfl ?_
  refine j_callV E [.int v1] [] (c_X10_append (gL G) (gD G) (gY G) b1 v1 Z I L _ hZ kb1 h) (gwV W_424 W_425 W_426 W_189 W_423) rfl ⟨rfl, fy_X10_append⟩ ⟨by decide, by decide⟩ (c := 10) rfl (by decide) kb1 rfl rfl (Nat.le_of_ble_eq_true rfl) ⟨Nat.zero_le _, Nat.zero_le _⟩ dX11_sign_5 (fun v2 Z3 I4 L5 q6 => ?_)
  obtain ⟨rfl, r8, rfl, zr8, h⟩ := q6
  show jJ G 2 8 [(0, .ref v0), (1, .int v1)] [.int r8] Z I4 L5 0 0
  refine j_if_eq E 21 dX11_sign_8 (by decide) (fun c9 => ?_) (fun c9 => ?_)
  · have h := h.1 c9
    refine j_iconst E (v := -1) dX11_sign_21 (by decide) ?_
    exact j_ireturn E ⟨rfl, _, rfl, h⟩ (Nat.zero_le _) (Nat.zero_le _) dX11_sign_22
  · have h := h.2 c9
    refine j_aload_n E dX11_sign_11 0 rfl ?_
    obtain ⟨b10, eb10, kb10⟩ := sh_o hZ kv0 (j := 0) (k := 10) rfl
    have h := h b10 eb10
    refine j_getr E 11 0 rfl rfl (by decide) (by decide) (iw iT_11) rfl rfl (tw W_422) kv0 eb10 dX11_sign_12 ?_
    refine j_getiN E 10 1 rfl rfl (by decide) (by decide) (iw iT_10) rfl rfl (nw_10_1_X11_94) kb10 dX11_sign_15 ?_
    refine j_goto E 22 dX11_sign_18 (by decide) ?_
    exact j_ireturn E ⟨rfl, _, rfl, h⟩ (Nat.zero_le _) (Nat.zero_le _) dX11_sign_22
set_option maxRecDepth 100000 in
def f_X11_end (v0 : Nat) (v1 : Int32) (Z : jZ) (I : jI) (L : jL) (Q : Int32 → jI → jL → Prop) : Prop := (∀ b1 : Nat, jr Z v0 0 = some b1 → (f_X10_cut b1 v1 Z I L (fun r8 I4 L5 => Q r8 I4 L5)))
set_option maxHeartbeats 4000000 in
set_option maxRecDepth 100000 in
theorem c_X11_end (l : Launch) (D : va_G) (cy : jC) (v0 : Nat) (v1 : Int32) (Z : jZ) (I : jI) (L : jL) (Q : Int32 → jI → jL → Prop) (hZ : SH Z) (kv0 : jk Z v0 11) (h : f_X11_end v0 v1 Z I L Q) : jCt l yX11_end w_X11_end { frames := 1, cells := 0, slots := 0, locals := 21 } D cy [.ref v0, .int v1] Z I L (rtZ Z Q) := by
  refine jCt_of (cc := cX11_end) (maxL := 2) (ret := (some .boolean)) (by decide +kernel) rfl (Nat.le_of_ble_eq_true rfl) ?_
  intro G eD eY eL E
  subst eD; subst eY; subst eL
  have E : jE G cX11_end RX11 w_X11_end 2 (some .boolean) { frames := 1, cells := 0, slots := 0, locals := 21 } (rtZ Z Q) := E
  show jJ G 2 0 [(0, .ref v0), (1, .int v1)] [] Z I L 0 0
  refine j_aload_n E dX11_end_0 0 rfl ?_
  obtain ⟨b1, eb1, kb1⟩ := sh_o hZ kv0 (j := 0) (k := 10) rfl
  have h := h b1 eb1
  refine j_getr E 11 0 rfl rfl (by decide) (by decide) (iw iT_11) rfl rfl (tw W_422) kv0 eb1 dX11_end_1 ?_
  refine j_iload_n E dX11_end_4 1 rfl ?_
  refine j_callV E [.int v1] [] (c_X10_cut (gL G) (gD G) (gY G) b1 v1 Z I L _ hZ kb1 h) (gwV W_428 W_429 W_430 W_189 W_427) rfl ⟨rfl, fy_X10_cut⟩ ⟨by decide, by decide⟩ (c := 10) rfl (by decide) kb1 rfl rfl (Nat.le_of_ble_eq_true rfl) ⟨Nat.zero_le _, Nat.zero_le _⟩ dX11_end_5 (fun v2 Z3 I4 L5 q6 => ?_)
  obtain ⟨rfl, r8, rfl, zr8, h⟩ := q6
  show jJ G 2 8 [(0, .ref v0), (1, .int v1)] [.int r8] Z I4 L5 0 0
  exact j_zreturn E zr8 ⟨rfl, _, rfl, zr8, h⟩ (Nat.zero_le _) (Nat.zero_le _) dX11_end_8
set_option maxRecDepth 100000 in
def f_X11_find_b30  (Z : jZ) (Q : Option Nat → jI → jL → Prop)  (I : jI) (L : jL) : Prop := Q none I L
set_option maxHeartbeats 4000000 in
set_option maxRecDepth 100000 in
theorem m_X11_find_b30 {G : jG} {Z : jZ} {Q : Option Nat → jI → jL → Prop} (E : jE G cX11_find RX11 w_X11_find 2 (some (.object "StairsInSteps$Pilgrim")) { frames := 0, cells := 0, slots := 0, locals := 0 } (rtR 5 Z Q)) (hZ : SH Z)   (I : jI) (L : jL)  (h : f_X11_find_b30  Z Q  I L) : jJ G 2 30 [] [] Z I L 0 0 := by
  refine j_null E dX11_find_30 ?_
  exact j_areturn E (Or.inl ⟨_, rfl⟩) none rfl ⟨rfl, _, rfl, (fun _ q => by cases q), h⟩ (Nat.zero_le _) (Nat.zero_le _) dX11_find_31
set_option maxRecDepth 100000 in
def f_X11_find (v0 : Nat) (v1 : Int32) (Z : jZ) (I : jI) (L : jL) (Q : Option Nat → jI → jL → Prop) : Prop := ((v1 < 0 → f_X11_find_b30  Z Q  I L) ∧ (¬ (v1 < 0) → (((I v0 4) ≤ v1 → f_X11_find_b30  Z Q  I L) ∧ (¬ ((I v0 4) ≤ v1) → (∀ b3 : Nat, jr Z v0 3 = some b3 → (((6 : Int32) ≤ v1 → f_X11_find_b30  Z Q  I L) ∧ (¬ ((6 : Int32) ≤ v1) → (∀ b5 : Nat, jr Z v0 3 = some b5 → (vp_in v1 6 ∧ ((jr Z b5 v1.toNatClampNeg = none → Q none I L) ∧ (∀ b7 : Nat, jr Z b5 v1.toNatClampNeg = some b7 → Q (some b7) I L)))))))))))
set_option maxHeartbeats 4000000 in
set_option maxRecDepth 100000 in
theorem c_X11_find (l : Launch) (D : va_G) (cy : jC) (v0 : Nat) (v1 : Int32) (Z : jZ) (I : jI) (L : jL) (Q : Option Nat → jI → jL → Prop) (hZ : SH Z) (kv0 : jk Z v0 11) (h : f_X11_find v0 v1 Z I L Q) : jCt l yX11_find w_X11_find { frames := 0, cells := 0, slots := 0, locals := 0 } D cy [.ref v0, .int v1] Z I L (rtR 5 Z Q) := by
  refine jCt_of (cc := cX11_find) (maxL := 2) (ret := (some (.object "StairsInSteps$Pilgrim"))) (by decide +kernel) rfl (Nat.le_of_ble_eq_true rfl) ?_
  intro G eD eY eL E
  subst eD; subst eY; subst eL
  have E : jE G cX11_find RX11 w_X11_find 2 (some (.object "StairsInSteps$Pilgrim")) { frames := 0, cells := 0, slots := 0, locals := 0 } (rtR 5 Z Q) := E
  show jJ G 2 0 [(0, .ref v0), (1, .int v1)] [] Z I L 0 0
  refine j_iload_n E dX11_find_0 1 rfl ?_
  refine j_if_lt E 30 dX11_find_1 (by decide) (fun c1 => ?_) (fun c1 => ?_)
  · have h := h.1 c1
    refine j_sub [] rfl ?_
    exact m_X11_find_b30 E hZ   I L  h
  · have h := h.2 c1
    refine j_iload_n E dX11_find_4 1 rfl ?_
    refine j_aload_n E dX11_find_5 0 rfl ?_
    refine j_geti E 11 4 rfl rfl (by decide) (by decide) (iw iT_11) rfl rfl (tw W_431) kv0 dX11_find_6 ?_
    refine j_icmp_ge E 30 dX11_find_9 (by decide) (fun c2 => ?_) (fun c2 => ?_)
    · have h := h.1 c2
      refine j_sub [] rfl ?_
      exact m_X11_find_b30 E hZ   I L  h
    · have h := h.2 c2
      refine j_iload_n E dX11_find_12 1 rfl ?_
      refine j_aload_n E dX11_find_13 0 rfl ?_
      obtain ⟨b3, eb3, kb3, lb3⟩ := sh_f hZ kv0 (j := 3) (k := 18) (m := 6) rfl
      have h := h b3 eb3
      refine j_getr E 11 3 rfl rfl (by decide) (by decide) (iw iT_11) rfl rfl (tw W_432) kv0 eb3 dX11_find_14 ?_
      refine j_alen18 E (v := 6) kb3 (by rw [lb3]; rfl) dX11_find_17 ?_
      refine j_icmp_ge E 30 dX11_find_18 (by decide) (fun c4 => ?_) (fun c4 => ?_)
      · have h := h.1 c4
        refine j_sub [] rfl ?_
        exact m_X11_find_b30 E hZ   I L  h
      · have h := h.2 c4
        refine j_aload_n E dX11_find_21 0 rfl ?_
        obtain ⟨b5, eb5, kb5, lb5⟩ := sh_f hZ kv0 (j := 3) (k := 18) (m := 6) rfl
        have h := h b5 eb5
        refine j_getr E 11 3 rfl rfl (by decide) (by decide) (iw iT_11) rfl rfl (tw W_432) kv0 eb5 dX11_find_22 ?_
        refine j_iload_n E dX11_find_25 1 rfl ?_
        obtain ⟨o6, h⟩ := h
        refine j_aald18 E kb5 (by rw [lb5]; exact o6) dX11_find_26 ?_
        rcases c8 : jr Z b5 v1.toNatClampNeg with _ | b7
        · have h := h.1 c8
          refine j_rfN rfl ?_
          refine j_goto E 31 dX11_find_27 (by decide) ?_
          exact j_areturn E (Or.inl ⟨_, rfl⟩) none rfl ⟨rfl, _, rfl, (fun _ q => by cases q), h⟩ (Nat.zero_le _) (Nat.zero_le _) dX11_find_31
        · have h := h.2 b7 c8
          have kb7 := sh_p hZ kb5 c8
          refine j_rfS rfl ?_
          refine j_goto E 31 dX11_find_27 (by decide) ?_
          exact j_areturn E (Or.inl ⟨_, rfl⟩) (some b7) rfl ⟨rfl, _, rfl, (fun _ q => by cases q; exact kb7), h⟩ (Nat.zero_le _) (Nat.zero_le _) dX11_find_31
set_option maxRecDepth 100000 in
def f_X11_stairs_L76  (Z : jZ) (Q : Int32 → jI → jL → Prop) : Nat → Nat → Int32 → Int32 → jI → jL → Prop
  | 0 => fun _ _ _ _ _ => False
  | n + 1 => fun v0 v1 v2 I L => (∀ b1 : Nat, jr Z v0 8 = some b1 → (((2 : Int32) ≤ v2 → Q v1 I L) ∧ (¬ ((2 : Int32) ≤ v2) → (∀ b3 : Nat, jr Z v0 8 = some b3 → (vp_in v2 2 ∧ (∀ b5 : Nat, jr Z b3 v2.toNatClampNeg = some b5 → (∀ I6 : jI, I6 = jpI I b5 8 (0 : Int32) → (∀ x7 : Int32, x7 = v2 + 1 → (f_X11_stairs_L76 Z Q n) v0 v1 x7 I6 L))))))))
set_option maxHeartbeats 4000000 in
set_option maxRecDepth 100000 in
theorem m_X11_stairs_L76 {G : jG} {Z : jZ} {Q : Int32 → jI → jL → Prop} (E : jE G cX11_stairs RX11 w_X11_stairs 4 (some .int) { frames := 6, cells := 0, slots := 0, locals := 140 } (rtI Z Q)) (hZ : SH Z)  : ∀ (n : Nat) (v0 : Nat) (v1 : Int32) (v2 : Int32) (I : jI) (L : jL), jk Z v0 11 → f_X11_stairs_L76  Z Q n v0 v1 v2 I L → jJ G 4 76 [(0, .ref v0), (1, .int v1), (2, .int v2)] [] Z I L 0 0 := by
  intro n
  induction n with
  | zero => intro v0 v1 v2 I L _ h; exact h.elim
  | succ n ih =>
    intro v0 v1 v2 I L kv0 h
    have h : (∀ b1 : Nat, jr Z v0 8 = some b1 → (((2 : Int32) ≤ v2 → Q v1 I L) ∧ (¬ ((2 : Int32) ≤ v2) → (∀ b3 : Nat, jr Z v0 8 = some b3 → (vp_in v2 2 ∧ (∀ b5 : Nat, jr Z b3 v2.toNatClampNeg = some b5 → (∀ I6 : jI, I6 = jpI I b5 8 (0 : Int32) → (∀ x7 : Int32, x7 = v2 + 1 → (f_X11_stairs_L76 Z Q n) v0 v1 x7 I6 L)))))))) := h
    obtain ⟨K76, eK76⟩ : ∃ K : Nat → Int32 → Int32 → jI → jL → Prop, K = f_X11_stairs_L76  Z Q n := ⟨_, rfl⟩
    have hK76 := ih
    clear eK76 K76
    generalize f_X11_stairs_L76  Z Q n = K76 at hK76 h
    refine j_iload_n E dX11_stairs_76 2 rfl ?_
    refine j_aload_n E dX11_stairs_77 0 rfl ?_
    obtain ⟨b1, eb1, kb1, lb1⟩ := sh_f hZ kv0 (j := 8) (k := 17) (m := 2) rfl
    have h := h b1 eb1
    refine j_getr E 11 8 rfl rfl (by decide) (by decide) (iw iT_11) rfl rfl (tw W_433) kv0 eb1 dX11_stairs_78 ?_
    refine j_alen17 E (v := 2) kb1 (by rw [lb1]; rfl) dX11_stairs_81 ?_
    refine j_icmp_ge E 101 dX11_stairs_82 (by decide) (fun c2 => ?_) (fun c2 => ?_)
    · have h := h.1 c2
      refine j_iload_n E dX11_stairs_101 1 rfl ?_
      exact j_ireturn E ⟨rfl, _, rfl, h⟩ (Nat.zero_le _) (Nat.zero_le _) dX11_stairs_102
    · have h := h.2 c2
      refine j_aload_n E dX11_stairs_85 0 rfl ?_
      obtain ⟨b3, eb3, kb3, lb3⟩ := sh_f hZ kv0 (j := 8) (k := 17) (m := 2) rfl
      have h := h b3 eb3
      refine j_getr E 11 8 rfl rfl (by decide) (by decide) (iw iT_11) rfl rfl (tw W_433) kv0 eb3 dX11_stairs_86 ?_
      refine j_iload_n E dX11_stairs_89 2 rfl ?_
      obtain ⟨o4, h⟩ := h
      refine j_aald17 E kb3 (by rw [lb3]; exact o4) dX11_stairs_90 ?_
      obtain ⟨b5, eb5, kb5⟩ := sh_k hZ kb3 (by rw [lb3]; exact o4)
      have h := h b5 eb5
      refine j_rfS eb5 ?_
      refine j_iconst E (v := 0) dX11_stairs_91 (by decide) ?_
      refine j_putiN E 2 8 rfl rfl (by decide) (by decide) (iw iT_2) tyX2_ok nmX2 rfl rfl (nw_2_8_X11_124) rfl rfl rfl kb5 dX11_stairs_92 ?_
      refine j_nmI (fun I6 eI6 => ?_)
      have h := h I6 eI6
      obtain ⟨x7, ex7⟩ : ∃ y : Int32, y = v2 + 1 := ⟨_, rfl⟩
      have h := h x7 ex7
      refine j_iinc E x7 [(2, .int x7), (0, .ref v0), (1, .int v1)] dX11_stairs_95 2 rfl (by rw [ex7]; rfl) (by decide) rfl ?_
      refine j_goto E 76 dX11_stairs_98 (by decide) ?_
      refine j_sub [1, 2, 0] rfl ?_
      exact hK76 v0 v1 x7 I6 L kv0 h
set_option maxRecDepth 100000 in
def f_X11_stairs_b60 (K38 : Nat → Int32 → Int32 → jI → jL → Prop) (Z : jZ) (Q : Int32 → jI → jL → Prop) (v0 : Nat) (v1 : Int32) (v2 : Int32) (I : jI) (L : jL) : Prop := (∀ x8 : Int32, x8 = v2 + 1 → K38 v0 v1 x8 I L)
set_option maxHeartbeats 4000000 in
set_option maxRecDepth 100000 in
theorem m_X11_stairs_b60 {G : jG} {Z : jZ} {Q : Int32 → jI → jL → Prop} (E : jE G cX11_stairs RX11 w_X11_stairs 4 (some .int) { frames := 6, cells := 0, slots := 0, locals := 140 } (rtI Z Q)) (hZ : SH Z) (K38 : Nat → Int32 → Int32 → jI → jL → Prop) (hK38 : ∀ (v0 : Nat) (v1 : Int32) (v2 : Int32) (I : jI) (L : jL), jk Z v0 11 → K38 v0 v1 v2 I L → jJ G 4 38 [(0, .ref v0), (1, .int v1), (2, .int v2)] [] Z I L 0 0) (v0 : Nat) (v1 : Int32) (v2 : Int32) (I : jI) (L : jL) (kv0 : jk Z v0 11) (h : f_X11_stairs_b60 K38 Z Q v0 v1 v2 I L) : jJ G 4 60 [(0, .ref v0), (1, .int v1), (2, .int v2)] [] Z I L 0 0 := by
  obtain ⟨x8, ex8⟩ : ∃ y : Int32, y = v2 + 1 := ⟨_, rfl⟩
  have h := h x8 ex8
  refine j_iinc E x8 [(2, .int x8), (0, .ref v0), (1, .int v1)] dX11_stairs_60 2 rfl (by rw [ex8]; rfl) (by decide) rfl ?_
  refine j_goto E 38 dX11_stairs_63 (by decide) ?_
  refine j_sub [1, 2, 0] rfl ?_
  exact hK38 v0 v1 x8 I L kv0 h
set_option maxRecDepth 100000 in
def f_X11_stairs_L38  (Z : jZ) (Q : Int32 → jI → jL → Prop) : Nat → Nat → Int32 → Int32 → jI → jL → Prop
  | 0 => fun _ _ _ _ _ => False
  | n + 1 => fun v0 v1 v2 I L => (((I v0 4) ≤ v2 → (∀ b10 : Nat, jr Z v0 5 = some b10 → (f_J7_fill_53178 b10 (0 : Int32) Z I L (fun I13 L14 => (∃ m76 : Nat, f_X11_stairs_L76  Z Q m76 v0 v1 (0 : Int32) I13 L14))))) ∧ (¬ ((I v0 4) ≤ v2) → (f_X11_find v0 v2 Z I L (fun r24 I20 L21 => ((r24 = none → f_X11_stairs_b60 (f_X11_stairs_L38 Z Q n) Z Q v0 v1 v2 I20 L21) ∧ (∀ b25 : Nat, r24 = some b25 → (f_X5_startAnew b25 Z I20 L21 (fun I29 L30 => f_X11_stairs_b60 (f_X11_stairs_L38 Z Q n) Z Q v0 v1 v2 I29 L30))))))))
set_option maxHeartbeats 4000000 in
set_option maxRecDepth 100000 in
theorem m_X11_stairs_L38 {G : jG} {Z : jZ} {Q : Int32 → jI → jL → Prop} (E : jE G cX11_stairs RX11 w_X11_stairs 4 (some .int) { frames := 6, cells := 0, slots := 0, locals := 140 } (rtI Z Q)) (hZ : SH Z)  : ∀ (n : Nat) (v0 : Nat) (v1 : Int32) (v2 : Int32) (I : jI) (L : jL), jk Z v0 11 → f_X11_stairs_L38  Z Q n v0 v1 v2 I L → jJ G 4 38 [(0, .ref v0), (1, .int v1), (2, .int v2)] [] Z I L 0 0 := by
  intro n
  induction n with
  | zero => intro v0 v1 v2 I L _ h; exact h.elim
  | succ n ih =>
    intro v0 v1 v2 I L kv0 h
    have h : (((I v0 4) ≤ v2 → (∀ b10 : Nat, jr Z v0 5 = some b10 → (f_J7_fill_53178 b10 (0 : Int32) Z I L (fun I13 L14 => (∃ m76 : Nat, f_X11_stairs_L76  Z Q m76 v0 v1 (0 : Int32) I13 L14))))) ∧ (¬ ((I v0 4) ≤ v2) → (f_X11_find v0 v2 Z I L (fun r24 I20 L21 => ((r24 = none → f_X11_stairs_b60 (f_X11_stairs_L38 Z Q n) Z Q v0 v1 v2 I20 L21) ∧ (∀ b25 : Nat, r24 = some b25 → (f_X5_startAnew b25 Z I20 L21 (fun I29 L30 => f_X11_stairs_b60 (f_X11_stairs_L38 Z Q n) Z Q v0 v1 v2 I29 L30)))))))) := h
    obtain ⟨K38, eK38⟩ : ∃ K : Nat → Int32 → Int32 → jI → jL → Prop, K = f_X11_stairs_L38  Z Q n := ⟨_, rfl⟩
    have hK38 := ih
    clear eK38 K38
    generalize f_X11_stairs_L38  Z Q n = K38 at hK38 h
    refine j_iload_n E dX11_stairs_38 2 rfl ?_
    refine j_aload_n E dX11_stairs_39 0 rfl ?_
    refine j_geti E 11 4 rfl rfl (by decide) (by decide) (iw iT_11) rfl rfl (tw W_431) kv0 dX11_stairs_40 ?_
    refine j_icmp_ge E 66 dX11_stairs_43 (by decide) (fun c9 => ?_) (fun c9 => ?_)
    · have h := h.1 c9
      refine j_aload_n E dX11_stairs_66 0 rfl ?_
      obtain ⟨b10, eb10, kb10, lb10⟩ := sh_f hZ kv0 (j := 5) (k := 14) (m := 8) rfl
      have h := h b10 eb10
      refine j_getr E 11 5 rfl rfl (by decide) (by decide) (iw iT_11) rfl rfl (tw W_434) kv0 eb10 dX11_stairs_67 ?_
      refine j_iconst E (v := 0) dX11_stairs_70 (by decide) ?_
      refine j_callS E [.ref b10, .int (0 : Int32)] [] (c_J7_fill_53178 (gL G) (gD G) (gY G) b10 (0 : Int32) Z I L _ hZ kb10 h) (gwS W_435 W_22 W_17 W_20) rfl fy_J7_fill_53178 ⟨by decide, by decide⟩ rfl rfl (Nat.le_of_ble_eq_true rfl) ⟨Nat.zero_le _, Nat.zero_le _⟩ dX11_stairs_71 (fun v11 Z12 I13 L14 q15 => ?_)
      obtain ⟨rfl, rfl, h⟩ := q15
      show jJ G 4 74 [(0, .ref v0), (1, .int v1), (2, .int v2)] [] Z I13 L14 0 0
      refine j_iconst E (v := 0) dX11_stairs_74 (by decide) ?_
      refine j_istore_n E 2 [(2, .int (0 : Int32)), (0, .ref v0), (1, .int v1)] dX11_stairs_75 rfl (by decide) rfl ?_
      obtain ⟨n17, h⟩ := h
      refine j_sub [1, 2, 0] rfl ?_
      exact m_X11_stairs_L76 E hZ  n17 v0 v1 (0 : Int32) I13 L14 kv0 h
    · have h := h.2 c9
      refine j_aload_n E dX11_stairs_46 0 rfl ?_
      refine j_iload_n E dX11_stairs_47 2 rfl ?_
      refine j_callV E [.int v2] [] (c_X11_find (gL G) (gD G) (gY G) v0 v2 Z I L _ hZ kv0 h) (gwV W_437 W_438 W_439 W_40 W_436) rfl ⟨rfl, fy_X11_find⟩ ⟨by decide, by decide⟩ (c := 11) rfl (by decide) kv0 rfl rfl (Nat.le_of_ble_eq_true rfl) ⟨Nat.zero_le _, Nat.zero_le _⟩ dX11_stairs_48 (fun v18 Z19 I20 L21 q22 => ?_)
      obtain ⟨rfl, r24, rfl, zr24, h⟩ := q22
      show jJ G 4 51 [(0, .ref v0), (1, .int v1), (2, .int v2)] (va_rf r24 :: []) Z I20 L21 0 0
      rcases c26 : r24 with _ | b25
      · have h := h.1 c26
        refine j_rfN rfl ?_
        refine j_astore_nN E 3 [(3, .null), (0, .ref v0), (1, .int v1), (2, .int v2)] dX11_stairs_51 rfl (by decide) rfl ?_
        refine j_aload_nN E dX11_stairs_52 0 rfl ?_
        refine j_ifnullN E 60 dX11_stairs_53 (by decide) ?_
        refine j_sub [1, 2, 3] rfl ?_
        exact m_X11_stairs_b60 E hZ K38 hK38 v0 v1 v2 I20 L21 kv0 h
      · have h := h.2 b25 c26
        have kb25 := zr24 b25 c26
        refine j_rfS rfl ?_
        refine j_astore_n E 3 [(3, .ref b25), (0, .ref v0), (1, .int v1), (2, .int v2)] dX11_stairs_51 rfl (by decide) rfl ?_
        refine j_aload_n E dX11_stairs_52 0 rfl ?_
        refine j_ifnull E dX11_stairs_53 ?_
        refine j_aload_n E dX11_stairs_56 0 rfl ?_
        refine j_callV E [] [] (c_X5_startAnew (gL G) (gD G) (gY G) b25 Z I20 L21 _ hZ kb25 h) (gwV W_442 W_443 W_444 W_441 W_440) rfl ⟨rfl, fy_X5_startAnew⟩ ⟨by decide, by decide⟩ (c := 5) rfl (by decide) kb25 rfl rfl (Nat.le_of_ble_eq_true rfl) ⟨Nat.zero_le _, Nat.zero_le _⟩ dX11_stairs_57 (fun v27 Z28 I29 L30 q31 => ?_)
        obtain ⟨rfl, rfl, h⟩ := q31
        show jJ G 4 60 [(3, .ref b25), (0, .ref v0), (1, .int v1), (2, .int v2)] [] Z I29 L30 0 0
        refine j_sub [1, 2, 3] rfl ?_
        exact m_X11_stairs_b60 E hZ K38 hK38 v0 v1 v2 I29 L30 kv0 h
set_option maxRecDepth 100000 in
def f_X11_stairs (v0 : Nat) (Z : jZ) (I : jI) (L : jL) (Q : Int32 → jI → jL → Prop) : Prop := (∀ b33 : Nat, jr Z v0 1 = some b33 → (∀ b34 : Nat, jr Z v0 0 = some b34 → (f_X9_read b33 b34 Z I L (fun r41 I37 L38 => (∀ b42 : Nat, jr Z v0 0 = some b42 → (f_X10_clear b42 Z I37 L38 (fun I45 L46 => ((0 ≤ r41 → (∀ b50 : Nat, jr Z v0 2 = some b50 → (∀ b51 : Nat, jr Z v0 1 = some b51 → (f_X8_build b50 b51 Z I45 L46 (fun I54 L55 => (∃ m38 : Nat, f_X11_stairs_L38  Z Q m38 v0 r41 (0 : Int32) I54 L55)))))) ∧ (¬ (0 ≤ r41) → Q r41 I45 L46)))))))))
set_option maxHeartbeats 4000000 in
set_option maxRecDepth 100000 in
theorem c_X11_stairs (l : Launch) (D : va_G) (cy : jC) (v0 : Nat) (Z : jZ) (I : jI) (L : jL) (Q : Int32 → jI → jL → Prop) (hZ : SH Z) (kv0 : jk Z v0 11) (h : f_X11_stairs v0 Z I L Q) : jCt l yX11_stairs w_X11_stairs { frames := 6, cells := 0, slots := 0, locals := 140 } D cy [.ref v0] Z I L (rtI Z Q) := by
  refine jCt_of (cc := cX11_stairs) (maxL := 4) (ret := (some .int)) (by decide +kernel) rfl (Nat.le_of_ble_eq_true rfl) ?_
  intro G eD eY eL E
  subst eD; subst eY; subst eL
  have E : jE G cX11_stairs RX11 w_X11_stairs 4 (some .int) { frames := 6, cells := 0, slots := 0, locals := 140 } (rtI Z Q) := E
  show jJ G 4 0 [(0, .ref v0)] [] Z I L 0 0
  refine j_aload_n E dX11_stairs_0 0 rfl ?_
  obtain ⟨b33, eb33, kb33⟩ := sh_o hZ kv0 (j := 1) (k := 9) rfl
  have h := h b33 eb33
  refine j_getr E 11 1 rfl rfl (by decide) (by decide) (iw iT_11) rfl rfl (tw W_445) kv0 eb33 dX11_stairs_1 ?_
  refine j_aload_n E dX11_stairs_4 0 rfl ?_
  obtain ⟨b34, eb34, kb34⟩ := sh_o hZ kv0 (j := 0) (k := 10) rfl
  have h := h b34 eb34
  refine j_getr E 11 0 rfl rfl (by decide) (by decide) (iw iT_11) rfl rfl (tw W_422) kv0 eb34 dX11_stairs_5 ?_
  refine j_callV E [.ref b34] [] (c_X9_read (gL G) (gD G) (gY G) b33 b34 Z I L _ hZ kb33 kb34 h) (gwV W_447 W_448 W_449 W_378 W_446) rfl ⟨rfl, fy_X9_read⟩ ⟨by decide, by decide⟩ (c := 9) rfl (by decide) kb33 rfl rfl (Nat.le_of_ble_eq_true rfl) ⟨Nat.zero_le _, Nat.zero_le _⟩ dX11_stairs_8 (fun v35 Z36 I37 L38 q39 => ?_)
  obtain ⟨rfl, r41, rfl, h⟩ := q39
  show jJ G 4 11 [(0, .ref v0)] [.int r41] Z I37 L38 0 0
  refine j_istore_n E 1 [(1, .int r41), (0, .ref v0)] dX11_stairs_11 rfl (by decide) rfl ?_
  refine j_aload_n E dX11_stairs_12 1 rfl ?_
  obtain ⟨b42, eb42, kb42⟩ := sh_o hZ kv0 (j := 0) (k := 10) rfl
  have h := h b42 eb42
  refine j_getr E 11 0 rfl rfl (by decide) (by decide) (iw iT_11) rfl rfl (tw W_422) kv0 eb42 dX11_stairs_13 ?_
  refine j_callV E [] [] (c_X10_clear (gL G) (gD G) (gY G) b42 Z I37 L38 _ hZ kb42 h) (gwV W_451 W_452 W_453 W_189 W_450) rfl ⟨rfl, fy_X10_clear⟩ ⟨by decide, by decide⟩ (c := 10) rfl (by decide) kb42 rfl rfl (Nat.le_of_ble_eq_true rfl) ⟨Nat.zero_le _, Nat.zero_le _⟩ dX11_stairs_16 (fun v43 Z44 I45 L46 q47 => ?_)
  obtain ⟨rfl, rfl, h⟩ := q47
  show jJ G 4 19 [(1, .int r41), (0, .ref v0)] [] Z I45 L46 0 0
  refine j_iload_n E dX11_stairs_19 0 rfl ?_
  refine j_if_ge E 25 dX11_stairs_20 (by decide) (fun c49 => ?_) (fun c49 => ?_)
  · have h := h.1 c49
    refine j_aload_n E dX11_stairs_25 1 rfl ?_
    obtain ⟨b50, eb50, kb50⟩ := sh_o hZ kv0 (j := 2) (k := 8) rfl
    have h := h b50 eb50
    refine j_getr E 11 2 rfl rfl (by decide) (by decide) (iw iT_11) rfl rfl (tw W_454) kv0 eb50 dX11_stairs_26 ?_
    refine j_aload_n E dX11_stairs_29 1 rfl ?_
    obtain ⟨b51, eb51, kb51⟩ := sh_o hZ kv0 (j := 1) (k := 9) rfl
    have h := h b51 eb51
    refine j_getr E 11 1 rfl rfl (by decide) (by decide) (iw iT_11) rfl rfl (tw W_445) kv0 eb51 dX11_stairs_30 ?_
    refine j_callV E [.ref b51] [] (c_X8_build (gL G) (gD G) (gY G) b50 b51 Z I45 L46 _ hZ kb50 kb51 h) (gwV W_456 W_457 W_458 W_254 W_455) rfl ⟨rfl, fy_X8_build⟩ ⟨by decide, by decide⟩ (c := 8) rfl (by decide) kb50 rfl rfl (Nat.le_of_ble_eq_true rfl) ⟨Nat.zero_le _, Nat.zero_le _⟩ dX11_stairs_33 (fun v52 Z53 I54 L55 q56 => ?_)
    obtain ⟨rfl, rfl, h⟩ := q56
    show jJ G 4 36 [(1, .int r41), (0, .ref v0)] [] Z I54 L55 0 0
    refine j_iconst E (v := 0) dX11_stairs_36 (by decide) ?_
    refine j_istore_n E 2 [(2, .int (0 : Int32)), (1, .int r41), (0, .ref v0)] dX11_stairs_37 rfl (by decide) rfl ?_
    obtain ⟨n58, h⟩ := h
    refine j_sub [2, 1, 0] rfl ?_
    exact m_X11_stairs_L38 E hZ  n58 v0 r41 (0 : Int32) I54 L55 kv0 h
  · have h := h.2 c49
    refine j_iload_n E dX11_stairs_23 0 rfl ?_
    exact j_ireturn E ⟨rfl, _, rfl, h⟩ (Nat.zero_le _) (Nat.zero_le _) dX11_stairs_24
set_option maxRecDepth 100000 in
def f_X11_law_b45  (Z : jZ) (Q : Int32 → jI → jL → Prop) (v0 : Nat) (v2 : Int32) (I : jI) (L : jL) : Prop := (∀ b1 : Nat, jr Z v0 0 = some b1 → (f_X10_clear b1 Z I L (fun I4 L5 => Q v2 I4 L5)))
set_option maxHeartbeats 4000000 in
set_option maxRecDepth 100000 in
theorem m_X11_law_b45 {G : jG} {Z : jZ} {Q : Int32 → jI → jL → Prop} (E : jE G cX11_law RX11 w_X11_law 3 (some .int) { frames := 2, cells := 0, slots := 0, locals := 70 } (rtI Z Q)) (hZ : SH Z)  (v0 : Nat) (v2 : Int32) (I : jI) (L : jL) (kv0 : jk Z v0 11) (h : f_X11_law_b45  Z Q v0 v2 I L) : jJ G 3 45 [(0, .ref v0), (2, .int v2)] [] Z I L 0 0 := by
  refine j_aload_n E dX11_law_45 0 rfl ?_
  obtain ⟨b1, eb1, kb1⟩ := sh_o hZ kv0 (j := 0) (k := 10) rfl
  have h := h b1 eb1
  refine j_getr E 11 0 rfl rfl (by decide) (by decide) (iw iT_11) rfl rfl (tw W_422) kv0 eb1 dX11_law_46 ?_
  refine j_callV E [] [] (c_X10_clear (gL G) (gD G) (gY G) b1 Z I L _ hZ kb1 h) (gwV W_451 W_452 W_453 W_189 W_450) rfl ⟨rfl, fy_X10_clear⟩ ⟨by decide, by decide⟩ (c := 10) rfl (by decide) kb1 rfl rfl (Nat.le_of_ble_eq_true rfl) ⟨Nat.zero_le _, Nat.zero_le _⟩ dX11_law_49 (fun v2 Z3 I4 L5 q6 => ?_)
  obtain ⟨rfl, rfl, h⟩ := q6
  show jJ G 3 52 [(0, .ref v0), (2, .int v2)] [] Z I4 L5 0 0
  refine j_iload_n E dX11_law_52 1 rfl ?_
  exact j_ireturn E ⟨rfl, _, rfl, h⟩ (Nat.zero_le _) (Nat.zero_le _) dX11_law_53
set_option maxRecDepth 100000 in
def f_X11_law (v0 : Nat) (v1 : Int32) (Z : jZ) (I : jI) (L : jL) (Q : Int32 → jI → jL → Prop) : Prop := ((¬ v1 = 0 → ((¬ v1 = (1 : Int32) → f_X11_law_b45  Z Q v0 (-100 : Int32) I L) ∧ (v1 = (1 : Int32) → (∀ b10 : Nat, jr Z v0 2 = some b10 → (∀ b11 : Nat, jr Z b10 7 = some b11 → (∀ b12 : Nat, jr Z v0 0 = some b12 → (f_X3_read b11 b12 Z I L (fun r19 I15 L16 => f_X11_law_b45  Z Q v0 r19 I15 L16)))))))) ∧ (v1 = 0 → (∀ b20 : Nat, jr Z v0 2 = some b20 → (∀ b21 : Nat, jr Z b20 6 = some b21 → (∀ b22 : Nat, jr Z v0 0 = some b22 → (f_X3_read b21 b22 Z I L (fun r29 I25 L26 => f_X11_law_b45  Z Q v0 r29 I25 L26)))))))
set_option maxHeartbeats 4000000 in
set_option maxRecDepth 100000 in
theorem c_X11_law (l : Launch) (D : va_G) (cy : jC) (v0 : Nat) (v1 : Int32) (Z : jZ) (I : jI) (L : jL) (Q : Int32 → jI → jL → Prop) (hZ : SH Z) (kv0 : jk Z v0 11) (h : f_X11_law v0 v1 Z I L Q) : jCt l yX11_law w_X11_law { frames := 2, cells := 0, slots := 0, locals := 70 } D cy [.ref v0, .int v1] Z I L (rtI Z Q) := by
  refine jCt_of (cc := cX11_law) (maxL := 3) (ret := (some .int)) (by decide +kernel) rfl (Nat.le_of_ble_eq_true rfl) ?_
  intro G eD eY eL E
  subst eD; subst eY; subst eL
  have E : jE G cX11_law RX11 w_X11_law 3 (some .int) { frames := 2, cells := 0, slots := 0, locals := 70 } (rtI Z Q) := E
  show jJ G 3 0 [(0, .ref v0), (1, .int v1)] [] Z I L 0 0
  refine j_bipush E (v := -100) dX11_law_0 (by decide) ?_
  refine j_istore_n E 2 [(2, .int (-100 : Int32)), (0, .ref v0), (1, .int v1)] dX11_law_2 rfl (by decide) rfl ?_
  refine j_iload_n E dX11_law_3 2 rfl ?_
  refine j_if_ne E 25 dX11_law_4 (by decide) (fun c8 => ?_) (fun c8 => ?_)
  · have h := h.1 c8
    refine j_iload_n E dX11_law_25 2 rfl ?_
    refine j_iconst E (v := 1) dX11_law_26 (by decide) ?_
    refine j_icmp_ne E 45 dX11_law_27 (by decide) (fun c9 => ?_) (fun c9 => ?_)
    · have h := h.1 c9
      refine j_sub [1, 0] rfl ?_
      exact m_X11_law_b45 E hZ  v0 (-100 : Int32) I L kv0 h
    · have h := h.2 c9
      refine j_aload_n E dX11_law_30 1 rfl ?_
      obtain ⟨b10, eb10, kb10⟩ := sh_o hZ kv0 (j := 2) (k := 8) rfl
      have h := h b10 eb10
      refine j_getr E 11 2 rfl rfl (by decide) (by decide) (iw iT_11) rfl rfl (tw W_454) kv0 eb10 dX11_law_31 ?_
      obtain ⟨b11, eb11, kb11⟩ := sh_o hZ kb10 (j := 7) (k := 3) rfl
      have h := h b11 eb11
      refine j_getrN E 8 7 rfl rfl (by decide) (by decide) (iw iT_8) rfl rfl (nw_8_7_X11_135) kb10 eb11 dX11_law_34 ?_
      refine j_aload_n E dX11_law_37 1 rfl ?_
      obtain ⟨b12, eb12, kb12⟩ := sh_o hZ kv0 (j := 0) (k := 10) rfl
      have h := h b12 eb12
      refine j_getr E 11 0 rfl rfl (by decide) (by decide) (iw iT_11) rfl rfl (tw W_422) kv0 eb12 dX11_law_38 ?_
      refine j_callV E [.ref b12] [] (c_X3_read (gL G) (gD G) (gY G) b11 b12 Z I L _ hZ kb11 kb12 h) (gwV W_460 W_461 W_462 W_179 W_459) rfl ⟨rfl, fy_X3_read⟩ ⟨by decide, by decide⟩ (c := 3) rfl (by decide) kb11 rfl rfl (Nat.le_of_ble_eq_true rfl) ⟨Nat.zero_le _, Nat.zero_le _⟩ dX11_law_41 (fun v13 Z14 I15 L16 q17 => ?_)
      obtain ⟨rfl, r19, rfl, h⟩ := q17
      show jJ G 3 44 [(2, .int (-100 : Int32)), (0, .ref v0), (1, .int v1)] [.int r19] Z I15 L16 0 0
      refine j_istore_n E 2 [(2, .int r19), (0, .ref v0), (1, .int v1)] dX11_law_44 rfl (by decide) rfl ?_
      refine j_sub [1, 0] rfl ?_
      exact m_X11_law_b45 E hZ  v0 r19 I15 L16 kv0 h
  · have h := h.2 c8
    refine j_aload_n E dX11_law_7 1 rfl ?_
    obtain ⟨b20, eb20, kb20⟩ := sh_o hZ kv0 (j := 2) (k := 8) rfl
    have h := h b20 eb20
    refine j_getr E 11 2 rfl rfl (by decide) (by decide) (iw iT_11) rfl rfl (tw W_454) kv0 eb20 dX11_law_8 ?_
    obtain ⟨b21, eb21, kb21⟩ := sh_o hZ kb20 (j := 6) (k := 3) rfl
    have h := h b21 eb21
    refine j_getrN E 8 6 rfl rfl (by decide) (by decide) (iw iT_8) rfl rfl (nw_8_6_X11_128) kb20 eb21 dX11_law_11 ?_
    refine j_aload_n E dX11_law_14 1 rfl ?_
    obtain ⟨b22, eb22, kb22⟩ := sh_o hZ kv0 (j := 0) (k := 10) rfl
    have h := h b22 eb22
    refine j_getr E 11 0 rfl rfl (by decide) (by decide) (iw iT_11) rfl rfl (tw W_422) kv0 eb22 dX11_law_15 ?_
    refine j_callV E [.ref b22] [] (c_X3_read (gL G) (gD G) (gY G) b21 b22 Z I L _ hZ kb21 kb22 h) (gwV W_460 W_461 W_462 W_179 W_459) rfl ⟨rfl, fy_X3_read⟩ ⟨by decide, by decide⟩ (c := 3) rfl (by decide) kb21 rfl rfl (Nat.le_of_ble_eq_true rfl) ⟨Nat.zero_le _, Nat.zero_le _⟩ dX11_law_18 (fun v23 Z24 I25 L26 q27 => ?_)
    obtain ⟨rfl, r29, rfl, h⟩ := q27
    show jJ G 3 21 [(2, .int (-100 : Int32)), (0, .ref v0), (1, .int v1)] [.int r29] Z I25 L26 0 0
    refine j_istore_n E 2 [(2, .int r29), (0, .ref v0), (1, .int v1)] dX11_law_21 rfl (by decide) rfl ?_
    refine j_goto E 45 dX11_law_22 (by decide) ?_
    refine j_sub [1, 0] rfl ?_
    exact m_X11_law_b45 E hZ  v0 r29 I25 L26 kv0 h
set_option maxRecDepth 100000 in
def f_X11_step (v0 : Nat) (v1 : Int32) (v2 : Int32) (Z : jZ) (I : jI) (L : jL) (Q : Int32 → jI → jL → Prop) (QX : jI → jL → Prop) : Prop := (∀ b1 : Nat, jr Z v0 2 = some b1 → (f_X8_has b1 v1 Z I L (fun r8 I4 L5 => ((¬ r8 = 0 → ((v2 = 0 → (∀ b11 : Nat, jr Z v0 2 = some b11 → (∀ b12 : Nat, jr Z b11 0 = some b12 → (vp_in v1 24 ∧ Q (I4 b12 v1.toNatClampNeg) I4 L5)))) ∧ (¬ v2 = 0 → ((v2 = 1 → (∀ b15 : Nat, jr Z v0 2 = some b15 → (∀ b16 : Nat, jr Z b15 1 = some b16 → (vp_in v1 24 ∧ Q (I4 b16 v1.toNatClampNeg) I4 L5)))) ∧ (¬ v2 = 1 → ((v2 = 2 → (∀ b19 : Nat, jr Z v0 2 = some b19 → (∀ b20 : Nat, jr Z b19 2 = some b20 → (vp_in v1 24 ∧ Q (I4 b20 v1.toNatClampNeg) I4 L5)))) ∧ (¬ v2 = 2 → ((v2 = 3 → (∀ b23 : Nat, jr Z v0 2 = some b23 → (∀ b24 : Nat, jr Z b23 3 = some b24 → (vp_in v1 24 ∧ Q (I4 b24 v1.toNatClampNeg) I4 L5)))) ∧ (¬ v2 = 3 → ((v2 = 4 → (∀ b27 : Nat, jr Z v0 2 = some b27 → (∀ b28 : Nat, jr Z b27 4 = some b28 → (f_X4_mainOf b28 v1 Z I4 L5 (fun r35 I31 L32 => Q r35 I31 L32))))) ∧ (¬ v2 = 4 → QX I4 L5))))))))))) ∧ (r8 = 0 → QX I4 L5)))))
set_option maxHeartbeats 4000000 in
set_option maxRecDepth 100000 in
theorem c_X11_step (l : Launch) (hl0 : l.stackTraces = false) (D : va_G) (cy : jC) (v0 : Nat) (v1 : Int32) (v2 : Int32) (Z : jZ) (I : jI) (L : jL) (Q : Int32 → jI → jL → Prop) (QX : jI → jL → Prop) (hZ : SH Z) (kv0 : jk Z v0 11) (h : f_X11_step v0 v1 v2 Z I L Q QX) : jCtX l yX11_step w_X11_step { frames := 6, cells := 1, slots := 6, locals := 90 } D cy [.ref v0, .int v1, .int v2] Z I L (rtI Z Q) (fun Z9 I9 L9 => Z = Z9 ∧ QX I9 L9) := by
  refine jCtX_of hl0 (cc := cX11_step) (maxL := 3) (ret := (some .int)) (by decide +kernel) rfl (Nat.le_of_ble_eq_true rfl) ?_
  intro G eD eY eL E EX
  subst eD; subst eY; subst eL
  have E : jE G cX11_step RX11 w_X11_step 3 (some .int) { frames := 6, cells := 1, slots := 6, locals := 90 } (rtI Z Q) := E
  show jJ G 3 0 [(0, .ref v0), (1, .int v1), (2, .int v2)] [] Z I L 0 0
  refine j_aload_n E dX11_step_0 0 rfl ?_
  obtain ⟨b1, eb1, kb1⟩ := sh_o hZ kv0 (j := 2) (k := 8) rfl
  have h := h b1 eb1
  refine j_getr E 11 2 rfl rfl (by decide) (by decide) (iw iT_11) rfl rfl (tw W_454) kv0 eb1 dX11_step_1 ?_
  refine j_iload_n E dX11_step_4 1 rfl ?_
  refine j_callV E [.int v1] [] (c_X8_has (gL G) (gD G) (gY G) b1 v1 Z I L _ hZ kb1 h) (gwV W_463 W_256 W_257 W_254 W_253) rfl ⟨rfl, fy_X8_has⟩ ⟨by decide, by decide⟩ (c := 8) rfl (by decide) kb1 rfl rfl (Nat.le_of_ble_eq_true rfl) ⟨Nat.zero_le _, Nat.zero_le _⟩ dX11_step_5 (fun v2 Z3 I4 L5 q6 => ?_)
  obtain ⟨rfl, r8, rfl, zr8, h⟩ := q6
  show jJ G 3 8 [(0, .ref v0), (1, .int v1), (2, .int v2)] [.int r8] Z I4 L5 0 0
  refine j_if_ne E 21 dX11_step_8 (by decide) (fun c9 => ?_) (fun c9 => ?_)
  · have h := h.1 c9
    refine j_iload_n E dX11_step_21 2 rfl ?_
    by_cases c10 : v2 = 0
    · have h := h.1 c10
      refine j_tableIn E (34) 56 dX11_step_22 (by rw [c10]; decide) (by rw [c10]; decide) (by rw [c10]; rfl) (by decide) ?_
      refine j_aload_n E dX11_step_56 0 rfl ?_
      obtain ⟨b11, eb11, kb11⟩ := sh_o hZ kv0 (j := 2) (k := 8) rfl
      have h := h b11 eb11
      refine j_getr E 11 2 rfl rfl (by decide) (by decide) (iw iT_11) rfl rfl (tw W_454) kv0 eb11 dX11_step_57 ?_
      obtain ⟨b12, eb12, kb12, lb12⟩ := sh_f hZ kb11 (j := 0) (k := 14) (m := 24) rfl
      have h := h b12 eb12
      refine j_getrN E 8 0 rfl rfl (by decide) (by decide) (iw iT_8) rfl rfl (nw_8_0_X11_148) kb11 eb12 dX11_step_60 ?_
      refine j_iload_n E dX11_step_63 1 rfl ?_
      obtain ⟨o13, h⟩ := h
      refine j_iald E kb12 (by rw [lb12]; exact o13) dX11_step_64 ?_
      exact j_ireturn E ⟨rfl, _, rfl, h⟩ (Nat.zero_le _) (Nat.zero_le _) dX11_step_65
    · have h := h.2 c10
      by_cases c14 : v2 = 1
      · have h := h.1 c14
        refine j_tableIn E (44) 66 dX11_step_22 (by rw [c14]; decide) (by rw [c14]; decide) (by rw [c14]; rfl) (by decide) ?_
        refine j_aload_n E dX11_step_66 0 rfl ?_
        obtain ⟨b15, eb15, kb15⟩ := sh_o hZ kv0 (j := 2) (k := 8) rfl
        have h := h b15 eb15
        refine j_getr E 11 2 rfl rfl (by decide) (by decide) (iw iT_11) rfl rfl (tw W_454) kv0 eb15 dX11_step_67 ?_
        obtain ⟨b16, eb16, kb16, lb16⟩ := sh_f hZ kb15 (j := 1) (k := 14) (m := 24) rfl
        have h := h b16 eb16
        refine j_getrN E 8 1 rfl rfl (by decide) (by decide) (iw iT_8) rfl rfl (nw_8_1_X11_151) kb15 eb16 dX11_step_70 ?_
        refine j_iload_n E dX11_step_73 1 rfl ?_
        obtain ⟨o17, h⟩ := h
        refine j_iald E kb16 (by rw [lb16]; exact o17) dX11_step_74 ?_
        exact j_ireturn E ⟨rfl, _, rfl, h⟩ (Nat.zero_le _) (Nat.zero_le _) dX11_step_75
      · have h := h.2 c14
        by_cases c18 : v2 = 2
        · have h := h.1 c18
          refine j_tableIn E (54) 76 dX11_step_22 (by rw [c18]; decide) (by rw [c18]; decide) (by rw [c18]; rfl) (by decide) ?_
          refine j_aload_n E dX11_step_76 0 rfl ?_
          obtain ⟨b19, eb19, kb19⟩ := sh_o hZ kv0 (j := 2) (k := 8) rfl
          have h := h b19 eb19
          refine j_getr E 11 2 rfl rfl (by decide) (by decide) (iw iT_11) rfl rfl (tw W_454) kv0 eb19 dX11_step_77 ?_
          obtain ⟨b20, eb20, kb20, lb20⟩ := sh_f hZ kb19 (j := 2) (k := 14) (m := 24) rfl
          have h := h b20 eb20
          refine j_getrN E 8 2 rfl rfl (by decide) (by decide) (iw iT_8) rfl rfl (nw_8_2_X11_154) kb19 eb20 dX11_step_80 ?_
          refine j_iload_n E dX11_step_83 1 rfl ?_
          obtain ⟨o21, h⟩ := h
          refine j_iald E kb20 (by rw [lb20]; exact o21) dX11_step_84 ?_
          exact j_ireturn E ⟨rfl, _, rfl, h⟩ (Nat.zero_le _) (Nat.zero_le _) dX11_step_85
        · have h := h.2 c18
          by_cases c22 : v2 = 3
          · have h := h.1 c22
            refine j_tableIn E (64) 86 dX11_step_22 (by rw [c22]; decide) (by rw [c22]; decide) (by rw [c22]; rfl) (by decide) ?_
            refine j_aload_n E dX11_step_86 0 rfl ?_
            obtain ⟨b23, eb23, kb23⟩ := sh_o hZ kv0 (j := 2) (k := 8) rfl
            have h := h b23 eb23
            refine j_getr E 11 2 rfl rfl (by decide) (by decide) (iw iT_11) rfl rfl (tw W_454) kv0 eb23 dX11_step_87 ?_
            obtain ⟨b24, eb24, kb24, lb24⟩ := sh_f hZ kb23 (j := 3) (k := 14) (m := 24) rfl
            have h := h b24 eb24
            refine j_getrN E 8 3 rfl rfl (by decide) (by decide) (iw iT_8) rfl rfl (nw_8_3_X11_157) kb23 eb24 dX11_step_90 ?_
            refine j_iload_n E dX11_step_93 1 rfl ?_
            obtain ⟨o25, h⟩ := h
            refine j_iald E kb24 (by rw [lb24]; exact o25) dX11_step_94 ?_
            exact j_ireturn E ⟨rfl, _, rfl, h⟩ (Nat.zero_le _) (Nat.zero_le _) dX11_step_95
          · have h := h.2 c22
            by_cases c26 : v2 = 4
            · have h := h.1 c26
              refine j_tableIn E (74) 96 dX11_step_22 (by rw [c26]; decide) (by rw [c26]; decide) (by rw [c26]; rfl) (by decide) ?_
              refine j_aload_n E dX11_step_96 0 rfl ?_
              obtain ⟨b27, eb27, kb27⟩ := sh_o hZ kv0 (j := 2) (k := 8) rfl
              have h := h b27 eb27
              refine j_getr E 11 2 rfl rfl (by decide) (by decide) (iw iT_11) rfl rfl (tw W_454) kv0 eb27 dX11_step_97 ?_
              obtain ⟨b28, eb28, kb28⟩ := sh_o hZ kb27 (j := 4) (k := 4) rfl
              have h := h b28 eb28
              refine j_getrN E 8 4 rfl rfl (by decide) (by decide) (iw iT_8) rfl rfl (nw_8_4_X11_160) kb27 eb28 dX11_step_100 ?_
              refine j_iload_n E dX11_step_103 1 rfl ?_
              refine j_callV E [.int v1] [] (c_X4_mainOf (gL G) (gD G) (gY G) b28 v1 Z I4 L5 _ hZ kb28 h) (gwV W_464 W_265 W_266 W_160 W_263) rfl ⟨rfl, fy_X4_mainOf⟩ ⟨by decide, by decide⟩ (c := 4) rfl (by decide) kb28 rfl rfl (Nat.le_of_ble_eq_true rfl) ⟨Nat.zero_le _, Nat.zero_le _⟩ dX11_step_104 (fun v29 Z30 I31 L32 q33 => ?_)
              obtain ⟨rfl, r35, rfl, h⟩ := q33
              show jJ G 3 107 [(0, .ref v0), (1, .int v1), (2, .int v2)] [.int r35] Z I31 L32 0 0
              exact j_ireturn E ⟨rfl, _, rfl, h⟩ (Nat.zero_le _) (Nat.zero_le _) dX11_step_107
            · have h := h.2 c26
              refine j_tableOut E 108 dX11_step_22 (by have tc10 := lv_neT (k := 0) (a := 0) c10 rfl; have tc14 := lv_neT (k := 1) (a := 1) c14 rfl; have tc18 := lv_neT (k := 2) (a := 2) c18 rfl; have tc22 := lv_neT (k := 3) (a := 3) c22 rfl; have tc26 := lv_neT (k := 4) (a := 4) c26 rfl; omega) (by decide) ?_
              exact j_throw E EX (w := 6) (is := 170) (text := "nothing such of a step") (by decide) W_465 W_466 ⟨by decide, by decide⟩ rfl (by decide) (by decide) ⟨rfl, h⟩ dX11_step_108 dX11_step_111 (Or.inl ⟨dX11_step_112, rfl⟩) dX11_step_114 dX11_step_117
  · have h := h.2 c9
    exact j_throw E EX (w := 6) (is := 143) (text := "no such step") (by decide) W_465 W_466 ⟨by decide, by decide⟩ rfl (by decide) (by decide) ⟨rfl, h⟩ dX11_step_11 dX11_step_14 (Or.inl ⟨dX11_step_15, rfl⟩) dX11_step_17 dX11_step_20
