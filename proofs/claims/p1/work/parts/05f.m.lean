set_option maxRecDepth 100000 in
def f_X11_breaks_b179  (Q : Int32 → jZ → jI → jL → Prop) (v3 : Int32) (s0 : Nat) (s1 : Int64) (s2 : Int64) (Z : jZ) (I : jI) (L : jL) : Prop := (f_X11_tellTwo s0 s1 s2 Z I L (fun I3 L4 => Q v3 Z I3 L4))
set_option maxHeartbeats 4000000 in
set_option maxRecDepth 100000 in
theorem m_X11_breaks_b179 {G : jG} {Z0 : jZ} {Q : Int32 → jZ → jI → jL → Prop} (E : jE G cX11_breaks RX11 w_X11_breaks 8 (some .int) { frames := 6, cells := 0, slots := 0, locals := 150 } (xrtI Z0 Q))  (v3 : Int32) (s0 : Nat) (s1 : Int64) (s2 : Int64) (Z : jZ) (I : jI) (L : jL) (hZ : SH Z) (hx : jext Z0 Z) (ks0 : jk Z s0 11) (h : f_X11_breaks_b179  Q v3 s0 s1 s2 Z I L) : jJ G 8 179 [(3, .int v3)] [.long s2, .long s1, .ref s0] Z I L 0 0 := by
  refine j_callV E [.long s1, .long s2] [] (c_X11_tellTwo (gL G) (gD G) (gY G) s0 s1 s2 Z I L _ hZ ks0 h) (gwV W_485 W_486 W_487 W_28 W_484) rfl ⟨rfl, fy_X11_tellTwo⟩ ⟨by decide, by decide⟩ (c := 11) rfl (by decide) ks0 rfl rfl (Nat.le_of_ble_eq_true rfl) ⟨Nat.zero_le _, Nat.zero_le _⟩ dX11_breaks_179 (fun v1 Z2 I3 L4 q5 => ?_)
  obtain ⟨rfl, rfl, h⟩ := q5
  show jJ G 8 182 [(3, .int v3)] [] Z I3 L4 0 0
  refine j_iload_n E dX11_breaks_182 0 rfl ?_
  exact j_ireturn E ⟨hx, hZ, _, rfl, h⟩ (Nat.zero_le _) (Nat.zero_le _) dX11_breaks_183
set_option maxRecDepth 100000 in
def f_X11_breaks_b117 (K31 : Nat → Nat → Int32 → Int32 → Int32 → jZ → jI → jL → Prop) (Q : Int32 → jZ → jI → jL → Prop) (v0 : Nat) (v2 : Nat) (v3 : Int32) (v4 : Int32) (v5 : Int32) (Z : jZ) (I : jI) (L : jL) : Prop := (∀ x6 : Int32, x6 = v5 + 1 → K31 v0 v2 v3 v4 x6 Z I L)
set_option maxHeartbeats 4000000 in
set_option maxRecDepth 100000 in
theorem m_X11_breaks_b117 {G : jG} {Z0 : jZ} {Q : Int32 → jZ → jI → jL → Prop} (E : jE G cX11_breaks RX11 w_X11_breaks 8 (some .int) { frames := 6, cells := 0, slots := 0, locals := 150 } (xrtI Z0 Q)) (K31 : Nat → Nat → Int32 → Int32 → Int32 → jZ → jI → jL → Prop) (hK31 : ∀ (v0 : Nat) (v2 : Nat) (v3 : Int32) (v4 : Int32) (v5 : Int32) (Z : jZ) (I : jI) (L : jL), SH Z → jext Z0 Z → jk Z v0 11 → jk Z v2 5 → K31 v0 v2 v3 v4 v5 Z I L → jJ G 8 31 [(0, .ref v0), (2, .ref v2), (3, .int v3), (4, .int v4), (5, .int v5)] [] Z I L 0 0) (v0 : Nat) (v2 : Nat) (v3 : Int32) (v4 : Int32) (v5 : Int32) (Z : jZ) (I : jI) (L : jL) (hZ : SH Z) (hx : jext Z0 Z) (kv0 : jk Z v0 11) (kv2 : jk Z v2 5) (h : f_X11_breaks_b117 K31 Q v0 v2 v3 v4 v5 Z I L) : jJ G 8 117 [(0, .ref v0), (2, .ref v2), (3, .int v3), (4, .int v4), (5, .int v5)] [] Z I L 0 0 := by
  obtain ⟨x6, ex6⟩ : ∃ y : Int32, y = v5 + 1 := ⟨_, rfl⟩
  have h := h x6 ex6
  refine j_iinc E x6 [(5, .int x6), (0, .ref v0), (2, .ref v2), (3, .int v3), (4, .int v4)] dX11_breaks_117 4 rfl (by rw [ex6]; rfl) (by decide) rfl ?_
  refine j_goto E 31 dX11_breaks_120 (by decide) ?_
  refine j_sub [1, 2, 3, 4, 0] rfl ?_
  exact hK31 v0 v2 v3 v4 x6 Z I L hZ hx kv0 kv2 h
set_option maxRecDepth 100000 in
def f_X11_breaks_b107 (K31 : Nat → Nat → Int32 → Int32 → Int32 → jZ → jI → jL → Prop) (Q : Int32 → jZ → jI → jL → Prop) (v0 : Nat) (v2 : Nat) (v5 : Int32) (v6 : Int64) (Z : jZ) (I : jI) (L : jL) : Prop := (f_X11_costIn v6 Z I L (fun r12 I9 L10 => f_X11_breaks_b117 K31 Q v0 v2 v5 r12 v5 Z I9 L10))
set_option maxHeartbeats 4000000 in
set_option maxRecDepth 100000 in
theorem m_X11_breaks_b107 {G : jG} {Z0 : jZ} {Q : Int32 → jZ → jI → jL → Prop} (E : jE G cX11_breaks RX11 w_X11_breaks 8 (some .int) { frames := 6, cells := 0, slots := 0, locals := 150 } (xrtI Z0 Q)) (K31 : Nat → Nat → Int32 → Int32 → Int32 → jZ → jI → jL → Prop) (hK31 : ∀ (v0 : Nat) (v2 : Nat) (v3 : Int32) (v4 : Int32) (v5 : Int32) (Z : jZ) (I : jI) (L : jL), SH Z → jext Z0 Z → jk Z v0 11 → jk Z v2 5 → K31 v0 v2 v3 v4 v5 Z I L → jJ G 8 31 [(0, .ref v0), (2, .ref v2), (3, .int v3), (4, .int v4), (5, .int v5)] [] Z I L 0 0) (v0 : Nat) (v2 : Nat) (v5 : Int32) (v6 : Int64) (Z : jZ) (I : jI) (L : jL) (hZ : SH Z) (hx : jext Z0 Z) (kv0 : jk Z v0 11) (kv2 : jk Z v2 5) (h : f_X11_breaks_b107 K31 Q v0 v2 v5 v6 Z I L) : jJ G 8 107 [(0, .ref v0), (2, .ref v2), (5, .int v5), (6, .long v6)] [] Z I L 0 0 := by
  refine j_iload E dX11_breaks_107 2 rfl ?_
  refine j_istore_n E 3 [(3, .int v5), (0, .ref v0), (2, .ref v2), (5, .int v5), (6, .long v6)] dX11_breaks_109 rfl (by decide) rfl ?_
  refine j_lload E dX11_breaks_110 4 rfl ?_
  refine j_callS E [.long v6] [] (c_X11_costIn (gL G) (gD G) (gY G) v6 Z I L _ hZ  h) (gwS W_513 W_55 W_28 W_54) rfl fy_X11_costIn ⟨by decide, by decide⟩ rfl rfl (Nat.le_of_ble_eq_true rfl) ⟨Nat.zero_le _, Nat.zero_le _⟩ dX11_breaks_112 (fun v7 Z8 I9 L10 q11 => ?_)
  obtain ⟨rfl, r12, rfl, h⟩ := q11
  show jJ G 8 115 [(3, .int v5), (0, .ref v0), (2, .ref v2), (5, .int v5), (6, .long v6)] [.int r12] Z I9 L10 0 0
  refine j_istore E 4 [(4, .int r12), (3, .int v5), (0, .ref v0), (2, .ref v2), (5, .int v5), (6, .long v6)] dX11_breaks_115 (by decide) rfl ?_
  refine j_sub [2, 3, 1, 0, 4] rfl ?_
  exact m_X11_breaks_b117 E K31 hK31 v0 v2 v5 r12 v5 Z I9 L10 hZ hx kv0 kv2 h
set_option maxRecDepth 100000 in
def f_X11_breaks_L31  (Q : Int32 → jZ → jI → jL → Prop) : Nat → Nat → Nat → Int32 → Int32 → Int32 → jZ → jI → jL → Prop
  | 0 => fun _ _ _ _ _ _ _ _ => False
  | n + 1 => fun v0 v2 v3 v4 v5 Z I L => (((8 : Int32) ≤ v5 → ((v3 = (-2 : Int32) → Q v3 Z I L) ∧ (¬ (v3 = (-2 : Int32)) → (∀ b15 : Nat, jr Z v2 8 = some b15 → (f_X6_lay b15 (I v2 3) (I v2 4) (-1 : Int32) Z I L (fun I18 L19 => (∀ b21 : Nat, jr Z v2 8 = some b21 → (f_X6_cheapest b21 Z I18 L19 (fun r27 Z23 I24 L25 => ((¬ (lg_cmp r27 (9223372036854775807 : Int64)) = 0 → (f_X11_costIn r27 Z23 I24 L25 (fun r36 I33 L34 => f_X11_breaks_b179  Q v3 v0 (v4.toInt64) (r36.toInt64) Z23 I33 L34))) ∧ ((lg_cmp r27 (9223372036854775807 : Int64)) = 0 → f_X11_breaks_b179  Q v3 v0 (v4.toInt64) (-1 : Int64) Z23 I24 L25))))))))))) ∧ (¬ ((8 : Int32) ≤ v5) → (f_X5_vowsAgainst v2 v5 Z I L (fun r42 I39 L40 => ((¬ r42 = 0 → (∀ b44 : Nat, jr Z v2 8 = some b44 → (f_X6_lay b44 (I39 v2 3) ((I39 v2 4) &&& (((1 : Int32) <<< (v5 &&& 31)) ^^^ (-1 : Int32))) (-1 : Int32) Z I39 L40 (fun I47 L48 => (∀ b50 : Nat, jr Z v2 8 = some b50 → (f_X6_cheapest b50 Z I47 L48 (fun r56 Z52 I53 L54 => (((lg_cmp r56 (9223372036854775807 : Int64)) = 0 → f_X11_breaks_b117 (f_X11_breaks_L31 Q n) Q v0 v2 v3 v4 v5 Z52 I53 L54) ∧ (¬ ((lg_cmp r56 (9223372036854775807 : Int64)) = 0) → ((v3 = (-2 : Int32) → f_X11_breaks_b107 (f_X11_breaks_L31 Q n) Q v0 v2 v5 r56 Z52 I53 L54) ∧ (¬ (v3 = (-2 : Int32)) → (f_X11_costIn r56 Z52 I53 L54 (fun r66 I63 L64 => ((v4 ≤ r66 → f_X11_breaks_b117 (f_X11_breaks_L31 Q n) Q v0 v2 v3 v4 v5 Z52 I63 L64) ∧ (¬ (v4 ≤ r66) → f_X11_breaks_b107 (f_X11_breaks_L31 Q n) Q v0 v2 v5 r56 Z52 I63 L64))))))))))))))) ∧ (r42 = 0 → f_X11_breaks_b117 (f_X11_breaks_L31 Q n) Q v0 v2 v3 v4 v5 Z I39 L40))))))
set_option maxHeartbeats 4000000 in
set_option maxRecDepth 100000 in
theorem m_X11_breaks_L31 {G : jG} {Z0 : jZ} {Q : Int32 → jZ → jI → jL → Prop} (E : jE G cX11_breaks RX11 w_X11_breaks 8 (some .int) { frames := 6, cells := 0, slots := 0, locals := 150 } (xrtI Z0 Q))  : ∀ (n : Nat) (v0 : Nat) (v2 : Nat) (v3 : Int32) (v4 : Int32) (v5 : Int32) (Z : jZ) (I : jI) (L : jL), SH Z → jext Z0 Z → jk Z v0 11 → jk Z v2 5 → f_X11_breaks_L31  Q n v0 v2 v3 v4 v5 Z I L → jJ G 8 31 [(0, .ref v0), (2, .ref v2), (3, .int v3), (4, .int v4), (5, .int v5)] [] Z I L 0 0 := by
  intro n
  induction n with
  | zero => intro v0 v2 v3 v4 v5 Z I L _ _ _ _ h; exact h.elim
  | succ n ih =>
    intro v0 v2 v3 v4 v5 Z I L hZ hx kv0 kv2 h
    have h : (((8 : Int32) ≤ v5 → ((v3 = (-2 : Int32) → Q v3 Z I L) ∧ (¬ (v3 = (-2 : Int32)) → (∀ b15 : Nat, jr Z v2 8 = some b15 → (f_X6_lay b15 (I v2 3) (I v2 4) (-1 : Int32) Z I L (fun I18 L19 => (∀ b21 : Nat, jr Z v2 8 = some b21 → (f_X6_cheapest b21 Z I18 L19 (fun r27 Z23 I24 L25 => ((¬ (lg_cmp r27 (9223372036854775807 : Int64)) = 0 → (f_X11_costIn r27 Z23 I24 L25 (fun r36 I33 L34 => f_X11_breaks_b179  Q v3 v0 (v4.toInt64) (r36.toInt64) Z23 I33 L34))) ∧ ((lg_cmp r27 (9223372036854775807 : Int64)) = 0 → f_X11_breaks_b179  Q v3 v0 (v4.toInt64) (-1 : Int64) Z23 I24 L25))))))))))) ∧ (¬ ((8 : Int32) ≤ v5) → (f_X5_vowsAgainst v2 v5 Z I L (fun r42 I39 L40 => ((¬ r42 = 0 → (∀ b44 : Nat, jr Z v2 8 = some b44 → (f_X6_lay b44 (I39 v2 3) ((I39 v2 4) &&& (((1 : Int32) <<< (v5 &&& 31)) ^^^ (-1 : Int32))) (-1 : Int32) Z I39 L40 (fun I47 L48 => (∀ b50 : Nat, jr Z v2 8 = some b50 → (f_X6_cheapest b50 Z I47 L48 (fun r56 Z52 I53 L54 => (((lg_cmp r56 (9223372036854775807 : Int64)) = 0 → f_X11_breaks_b117 (f_X11_breaks_L31 Q n) Q v0 v2 v3 v4 v5 Z52 I53 L54) ∧ (¬ ((lg_cmp r56 (9223372036854775807 : Int64)) = 0) → ((v3 = (-2 : Int32) → f_X11_breaks_b107 (f_X11_breaks_L31 Q n) Q v0 v2 v5 r56 Z52 I53 L54) ∧ (¬ (v3 = (-2 : Int32)) → (f_X11_costIn r56 Z52 I53 L54 (fun r66 I63 L64 => ((v4 ≤ r66 → f_X11_breaks_b117 (f_X11_breaks_L31 Q n) Q v0 v2 v3 v4 v5 Z52 I63 L64) ∧ (¬ (v4 ≤ r66) → f_X11_breaks_b107 (f_X11_breaks_L31 Q n) Q v0 v2 v5 r56 Z52 I63 L64))))))))))))))) ∧ (r42 = 0 → f_X11_breaks_b117 (f_X11_breaks_L31 Q n) Q v0 v2 v3 v4 v5 Z I39 L40)))))) := h
    obtain ⟨K31, eK31⟩ : ∃ K : Nat → Nat → Int32 → Int32 → Int32 → jZ → jI → jL → Prop, K = f_X11_breaks_L31  Q n := ⟨_, rfl⟩
    have hK31 := ih
    clear eK31 K31
    generalize f_X11_breaks_L31  Q n = K31 at hK31 h
    refine j_iload E dX11_breaks_31 4 rfl ?_
    refine j_bipush E (v := 8) dX11_breaks_33 (by decide) ?_
    refine j_icmp_ge E 123 dX11_breaks_35 (by decide) (fun c13 => ?_) (fun c13 => ?_)
    · have h := h.1 c13
      refine j_iload_n E dX11_breaks_123 2 rfl ?_
      refine j_bipush E (v := -2) dX11_breaks_124 (by decide) ?_
      refine j_icmp_eq E 182 dX11_breaks_126 (by decide) (fun c14 => ?_) (fun c14 => ?_)
      · have h := h.1 c14
        refine j_iload_n E dX11_breaks_182 2 rfl ?_
        exact j_ireturn E ⟨hx, hZ, _, rfl, h⟩ (Nat.zero_le _) (Nat.zero_le _) dX11_breaks_183
      · have h := h.2 c14
        refine j_aload_n E dX11_breaks_129 1 rfl ?_
        obtain ⟨b15, eb15, kb15⟩ := sh_o hZ kv2 (j := 8) (k := 6) rfl
        have h := h b15 eb15
        refine j_getrN E 5 8 rfl rfl (by decide) (by decide) (iw iT_5) rfl rfl (nw_5_8_X11_263) kv2 eb15 dX11_breaks_130 ?_
        refine j_aload_n E dX11_breaks_133 1 rfl ?_
        refine j_getiN E 5 3 rfl rfl (by decide) (by decide) (iw iT_5) rfl rfl (nw_5_3_X11_213) kv2 dX11_breaks_134 ?_
        refine j_aload_n E dX11_breaks_137 1 rfl ?_
        refine j_getiN E 5 4 rfl rfl (by decide) (by decide) (iw iT_5) rfl rfl (nw_5_4_X11_196) kv2 dX11_breaks_138 ?_
        refine j_iconst E (v := -1) dX11_breaks_141 (by decide) ?_
        refine j_callV E [.int (I v2 3), .int (I v2 4), .int (-1 : Int32)] [] (c_X6_lay (gL G) (gD G) (gY G) b15 (I v2 3) (I v2 4) (-1 : Int32) Z I L _ hZ kb15 h) (gwV W_516 W_517 W_518 W_21 W_515) rfl ⟨rfl, fy_X6_lay⟩ ⟨by decide, by decide⟩ (c := 6) rfl (by decide) kb15 rfl rfl (Nat.le_of_ble_eq_true rfl) ⟨Nat.zero_le _, Nat.zero_le _⟩ dX11_breaks_142 (fun v16 Z17 I18 L19 q20 => ?_)
        obtain ⟨rfl, rfl, h⟩ := q20
        show jJ G 8 145 [(0, .ref v0), (2, .ref v2), (3, .int v3), (4, .int v4), (5, .int v5)] [] Z I18 L19 0 0
        refine j_aload_n E dX11_breaks_145 1 rfl ?_
        obtain ⟨b21, eb21, kb21⟩ := sh_o hZ kv2 (j := 8) (k := 6) rfl
        have h := h b21 eb21
        refine j_getrN E 5 8 rfl rfl (by decide) (by decide) (iw iT_5) rfl rfl (nw_5_8_X11_263) kv2 eb21 dX11_breaks_146 ?_
        refine j_callV E [] [] (c_X6_cheapest (gL G) (gD G) (gY G) b21 Z I18 L19 _ hZ kb21 h) (gwV W_520 W_521 W_522 W_21 W_519) rfl ⟨rfl, fy_X6_cheapest⟩ ⟨by decide, by decide⟩ (c := 6) rfl (by decide) kb21 rfl rfl (Nat.le_of_ble_eq_true rfl) ⟨Nat.zero_le _, Nat.zero_le _⟩ dX11_breaks_149 (fun v22 Z23 I24 L25 q26 => ?_)
        obtain ⟨yZ23, hZ23, r27, rfl, h⟩ := q26
        have hZ := hZ23
        have hx : jext Z0 Z23 := jext_trans hx yZ23
        have k28 := (yZ23 _ _ kv0).1
        have k29 := (yZ23 _ _ kv2).1
        show jJ G 8 152 [(0, .ref v0), (2, .ref v2), (3, .int v3), (4, .int v4), (5, .int v5)] [.long r27] Z23 I24 L25 0 0
        refine j_lstore E 5 [(5, .long r27), (0, .ref v0), (2, .ref v2), (3, .int v3), (4, .int v4)] dX11_breaks_152 (by decide) rfl ?_
        refine j_aload_n E dX11_breaks_154 1 rfl ?_
        refine j_iload E dX11_breaks_155 4 rfl ?_
        refine j_i2l E dX11_breaks_157 ?_
        refine j_lload E dX11_breaks_158 0 rfl ?_
        refine j_ldc2 E (tw W_523) dX11_breaks_160 ?_
        refine j_lcmp E dX11_breaks_163 ?_
        refine j_if_ne E 173 dX11_breaks_164 (by decide) (fun c30 => ?_) (fun c30 => ?_)
        · have h := h.1 c30
          refine j_lload E dX11_breaks_173 0 rfl ?_
          refine j_callS E [.long r27] [.long (v4.toInt64), .ref v0] (c_X11_costIn (gL G) (gD G) (gY G) r27 Z23 I24 L25 _ hZ  h) (gwS W_513 W_55 W_28 W_54) rfl fy_X11_costIn ⟨by decide, by decide⟩ rfl rfl (Nat.le_of_ble_eq_true rfl) ⟨Nat.zero_le _, Nat.zero_le _⟩ dX11_breaks_175 (fun v31 Z32 I33 L34 q35 => ?_)
          obtain ⟨rfl, r36, rfl, h⟩ := q35
          show jJ G 8 178 [(5, .long r27), (0, .ref v0), (2, .ref v2), (3, .int v3), (4, .int v4)] [.int r36, .long (v4.toInt64), .ref v0] Z23 I33 L34 0 0
          refine j_i2l E dX11_breaks_178 ?_
          refine j_sub [3] rfl ?_
          exact m_X11_breaks_b179 E  v3 v0 (v4.toInt64) (r36.toInt64) Z23 I33 L34 hZ hx k28 h
        · have h := h.2 c30
          refine j_ldc2 E (tw W_533) dX11_breaks_167 ?_
          refine j_goto E 179 dX11_breaks_170 (by decide) ?_
          refine j_sub [3] rfl ?_
          exact m_X11_breaks_b179 E  v3 v0 (v4.toInt64) (-1 : Int64) Z23 I24 L25 hZ hx k28 h
    · have h := h.2 c13
      refine j_aload_n E dX11_breaks_38 1 rfl ?_
      refine j_iload E dX11_breaks_39 4 rfl ?_
      refine j_callV E [.int v5] [] (c_X5_vowsAgainst (gL G) (gD G) (gY G) v2 v5 Z I L _ hZ kv2 h) (gwV W_505 W_506 W_507 W_425 W_504) rfl ⟨rfl, fy_X5_vowsAgainst⟩ ⟨by decide, by decide⟩ (c := 5) rfl (by decide) kv2 rfl rfl (Nat.le_of_ble_eq_true rfl) ⟨Nat.zero_le _, Nat.zero_le _⟩ dX11_breaks_41 (fun v37 Z38 I39 L40 q41 => ?_)
      obtain ⟨rfl, r42, rfl, zr42, h⟩ := q41
      show jJ G 8 44 [(0, .ref v0), (2, .ref v2), (3, .int v3), (4, .int v4), (5, .int v5)] [.int r42] Z I39 L40 0 0
      refine j_if_ne E 50 dX11_breaks_44 (by decide) (fun c43 => ?_) (fun c43 => ?_)
      · have h := h.1 c43
        refine j_aload_n E dX11_breaks_50 1 rfl ?_
        obtain ⟨b44, eb44, kb44⟩ := sh_o hZ kv2 (j := 8) (k := 6) rfl
        have h := h b44 eb44
        refine j_getrN E 5 8 rfl rfl (by decide) (by decide) (iw iT_5) rfl rfl (nw_5_8_X11_263) kv2 eb44 dX11_breaks_51 ?_
        refine j_aload_n E dX11_breaks_54 1 rfl ?_
        refine j_getiN E 5 3 rfl rfl (by decide) (by decide) (iw iT_5) rfl rfl (nw_5_3_X11_213) kv2 dX11_breaks_55 ?_
        refine j_aload_n E dX11_breaks_58 1 rfl ?_
        refine j_getiN E 5 4 rfl rfl (by decide) (by decide) (iw iT_5) rfl rfl (nw_5_4_X11_196) kv2 dX11_breaks_59 ?_
        refine j_iconst E (v := 1) dX11_breaks_62 (by decide) ?_
        refine j_iload E dX11_breaks_63 4 rfl ?_
        refine j_ishl E dX11_breaks_65 ?_
        refine j_iconst E (v := -1) dX11_breaks_66 (by decide) ?_
        refine j_ixor E dX11_breaks_67 ?_
        refine j_iand E dX11_breaks_68 ?_
        refine j_iconst E (v := -1) dX11_breaks_69 (by decide) ?_
        refine j_callV E [.int (I39 v2 3), .int ((I39 v2 4) &&& (((1 : Int32) <<< (v5 &&& 31)) ^^^ (-1 : Int32))), .int (-1 : Int32)] [] (c_X6_lay (gL G) (gD G) (gY G) b44 (I39 v2 3) ((I39 v2 4) &&& (((1 : Int32) <<< (v5 &&& 31)) ^^^ (-1 : Int32))) (-1 : Int32) Z I39 L40 _ hZ kb44 h) (gwV W_516 W_517 W_518 W_21 W_515) rfl ⟨rfl, fy_X6_lay⟩ ⟨by decide, by decide⟩ (c := 6) rfl (by decide) kb44 rfl rfl (Nat.le_of_ble_eq_true rfl) ⟨Nat.zero_le _, Nat.zero_le _⟩ dX11_breaks_70 (fun v45 Z46 I47 L48 q49 => ?_)
        obtain ⟨rfl, rfl, h⟩ := q49
        show jJ G 8 73 [(0, .ref v0), (2, .ref v2), (3, .int v3), (4, .int v4), (5, .int v5)] [] Z I47 L48 0 0
        refine j_aload_n E dX11_breaks_73 1 rfl ?_
        obtain ⟨b50, eb50, kb50⟩ := sh_o hZ kv2 (j := 8) (k := 6) rfl
        have h := h b50 eb50
        refine j_getrN E 5 8 rfl rfl (by decide) (by decide) (iw iT_5) rfl rfl (nw_5_8_X11_263) kv2 eb50 dX11_breaks_74 ?_
        refine j_callV E [] [] (c_X6_cheapest (gL G) (gD G) (gY G) b50 Z I47 L48 _ hZ kb50 h) (gwV W_520 W_521 W_522 W_21 W_519) rfl ⟨rfl, fy_X6_cheapest⟩ ⟨by decide, by decide⟩ (c := 6) rfl (by decide) kb50 rfl rfl (Nat.le_of_ble_eq_true rfl) ⟨Nat.zero_le _, Nat.zero_le _⟩ dX11_breaks_77 (fun v51 Z52 I53 L54 q55 => ?_)
        obtain ⟨yZ52, hZ52, r56, rfl, h⟩ := q55
        have hZ := hZ52
        have hx : jext Z0 Z52 := jext_trans hx yZ52
        have k57 := (yZ52 _ _ kv0).1
        have k58 := (yZ52 _ _ kv2).1
        show jJ G 8 80 [(0, .ref v0), (2, .ref v2), (3, .int v3), (4, .int v4), (5, .int v5)] [.long r56] Z52 I53 L54 0 0
        refine j_lstore E 6 [(6, .long r56), (0, .ref v0), (2, .ref v2), (3, .int v3), (4, .int v4), (5, .int v5)] dX11_breaks_80 (by decide) rfl ?_
        refine j_lload E dX11_breaks_82 0 rfl ?_
        refine j_ldc2 E (tw W_523) dX11_breaks_84 ?_
        refine j_lcmp E dX11_breaks_87 ?_
        refine j_if_eq E 117 dX11_breaks_88 (by decide) (fun c59 => ?_) (fun c59 => ?_)
        · have h := h.1 c59
          refine j_sub [1, 2, 3, 4, 5] rfl ?_
          exact m_X11_breaks_b117 E K31 hK31 v0 v2 v3 v4 v5 Z52 I53 L54 hZ hx k57 k58 h
        · have h := h.2 c59
          refine j_iload_n E dX11_breaks_91 3 rfl ?_
          refine j_bipush E (v := -2) dX11_breaks_92 (by decide) ?_
          refine j_icmp_eq E 107 dX11_breaks_94 (by decide) (fun c60 => ?_) (fun c60 => ?_)
          · have h := h.1 c60
            refine j_sub [1, 2, 5, 0] rfl ?_
            exact m_X11_breaks_b107 E K31 hK31 v0 v2 v5 r56 Z52 I53 L54 hZ hx k57 k58 h
          · have h := h.2 c60
            refine j_lload E dX11_breaks_97 0 rfl ?_
            refine j_callS E [.long r56] [] (c_X11_costIn (gL G) (gD G) (gY G) r56 Z52 I53 L54 _ hZ  h) (gwS W_513 W_55 W_28 W_54) rfl fy_X11_costIn ⟨by decide, by decide⟩ rfl rfl (Nat.le_of_ble_eq_true rfl) ⟨Nat.zero_le _, Nat.zero_le _⟩ dX11_breaks_99 (fun v61 Z62 I63 L64 q65 => ?_)
            obtain ⟨rfl, r66, rfl, h⟩ := q65
            show jJ G 8 102 [(6, .long r56), (0, .ref v0), (2, .ref v2), (3, .int v3), (4, .int v4), (5, .int v5)] [.int r66] Z52 I63 L64 0 0
            refine j_iload E dX11_breaks_102 4 rfl ?_
            refine j_icmp_ge E 117 dX11_breaks_104 (by decide) (fun c67 => ?_) (fun c67 => ?_)
            · have h := h.1 c67
              refine j_sub [1, 2, 3, 4, 5] rfl ?_
              exact m_X11_breaks_b117 E K31 hK31 v0 v2 v3 v4 v5 Z52 I63 L64 hZ hx k57 k58 h
            · have h := h.2 c67
              refine j_sub [1, 2, 5, 0] rfl ?_
              exact m_X11_breaks_b107 E K31 hK31 v0 v2 v5 r56 Z52 I63 L64 hZ hx k57 k58 h
      · have h := h.2 c43
        refine j_goto E 117 dX11_breaks_47 (by decide) ?_
        refine j_sub [0, 1, 2, 3, 4] rfl ?_
        exact m_X11_breaks_b117 E K31 hK31 v0 v2 v3 v4 v5 Z I39 L40 hZ hx kv0 kv2 h
set_option maxRecDepth 100000 in
def f_X11_breaks (v0 : Nat) (v1 : Int32) (Z : jZ) (I : jI) (L : jL) (Q : Int32 → jZ → jI → jL → Prop) : Prop := (f_X11_find v0 v1 Z I L (fun r73 I70 L71 => ((r73 = none → Q (-1 : Int32) Z I70 L71) ∧ (∀ b74 : Nat, r73 = some b74 → (∀ b76 : Nat, jr Z v0 2 = some b76 → ((¬ (I70 b76 9) = 0 → (∃ m31 : Nat, f_X11_breaks_L31  Q m31 v0 b74 (-2 : Int32) (0 : Int32) (0 : Int32) Z I70 L71)) ∧ ((I70 b76 9) = 0 → Q (-1 : Int32) Z I70 L71)))))))
set_option maxHeartbeats 4000000 in
set_option maxRecDepth 100000 in
theorem c_X11_breaks (l : Launch) (D : va_G) (cy : jC) (v0 : Nat) (v1 : Int32) (Z : jZ) (I : jI) (L : jL) (Q : Int32 → jZ → jI → jL → Prop) (hZ : SH Z) (kv0 : jk Z v0 11) (h : f_X11_breaks v0 v1 Z I L Q) : jCt l yX11_breaks w_X11_breaks { frames := 6, cells := 0, slots := 0, locals := 150 } D cy [.ref v0, .int v1] Z I L (xrtI Z Q) := by
  refine jCt_of (cc := cX11_breaks) (maxL := 8) (ret := (some .int)) (by decide +kernel) rfl (Nat.le_of_ble_eq_true rfl) ?_
  intro G eD eY eL E
  subst eD; subst eY; subst eL
  have E : jE G cX11_breaks RX11 w_X11_breaks 8 (some .int) { frames := 6, cells := 0, slots := 0, locals := 150 } (xrtI Z Q) := E
  have hx : jext Z Z := jext_rfl
  show jJ G 8 0 [(0, .ref v0), (1, .int v1)] [] Z I L 0 0
  refine j_aload_n E dX11_breaks_0 0 rfl ?_
  refine j_iload_n E dX11_breaks_1 1 rfl ?_
  refine j_callV E [.int v1] [] (c_X11_find (gL G) (gD G) (gY G) v0 v1 Z I L _ hZ kv0 h) (gwV W_421 W_422 W_423 W_28 W_420) rfl ⟨rfl, fy_X11_find⟩ ⟨by decide, by decide⟩ (c := 11) rfl (by decide) kv0 rfl rfl (Nat.le_of_ble_eq_true rfl) ⟨Nat.zero_le _, Nat.zero_le _⟩ dX11_breaks_2 (fun v68 Z69 I70 L71 q72 => ?_)
  obtain ⟨rfl, r73, rfl, zr73, h⟩ := q72
  show jJ G 8 5 [(0, .ref v0), (1, .int v1)] (va_rf r73 :: []) Z I70 L71 0 0
  rcases c75 : r73 with _ | b74
  · have h := h.1 c75
    refine j_rfN rfl ?_
    refine j_astore_nN E 2 [(2, .null), (0, .ref v0), (1, .int v1)] dX11_breaks_5 rfl (by decide) rfl ?_
    refine j_aload_nN E dX11_breaks_6 0 rfl ?_
    refine j_ifnullN E 20 dX11_breaks_7 (by decide) ?_
    refine j_iconst E (v := -1) dX11_breaks_20 (by decide) ?_
    exact j_ireturn E ⟨hx, hZ, _, rfl, h⟩ (Nat.zero_le _) (Nat.zero_le _) dX11_breaks_21
  · have h := h.2 b74 c75
    have kb74 := zr73 b74 c75
    refine j_rfS rfl ?_
    refine j_astore_n E 2 [(2, .ref b74), (0, .ref v0), (1, .int v1)] dX11_breaks_5 rfl (by decide) rfl ?_
    refine j_aload_n E dX11_breaks_6 0 rfl ?_
    refine j_ifnull E dX11_breaks_7 ?_
    refine j_aload_n E dX11_breaks_10 1 rfl ?_
    obtain ⟨b76, eb76, kb76⟩ := sh_o hZ kv0 (j := 2) (k := 8) rfl
    have h := h b76 eb76
    refine j_getr E 11 2 rfl rfl (by decide) (by decide) (iw iT_11) rfl rfl (tw W_438) kv0 eb76 dX11_breaks_11 ?_
    refine j_getiN E 8 9 rfl rfl (by decide) (by decide) (iw iT_8) rfl rfl (nw_8_9_X11_172) kb76 dX11_breaks_14 ?_
    refine j_if_ne E 22 dX11_breaks_17 (by decide) (fun c77 => ?_) (fun c77 => ?_)
    · have h := h.1 c77
      refine j_bipush E (v := -2) dX11_breaks_22 (by decide) ?_
      refine j_istore_n E 3 [(3, .int (-2 : Int32)), (2, .ref b74), (0, .ref v0), (1, .int v1)] dX11_breaks_24 rfl (by decide) rfl ?_
      refine j_iconst E (v := 0) dX11_breaks_25 (by decide) ?_
      refine j_istore E 4 [(4, .int (0 : Int32)), (3, .int (-2 : Int32)), (2, .ref b74), (0, .ref v0), (1, .int v1)] dX11_breaks_26 (by decide) rfl ?_
      refine j_iconst E (v := 0) dX11_breaks_28 (by decide) ?_
      refine j_istore E 5 [(5, .int (0 : Int32)), (4, .int (0 : Int32)), (3, .int (-2 : Int32)), (2, .ref b74), (0, .ref v0), (1, .int v1)] dX11_breaks_29 (by decide) rfl ?_
      obtain ⟨n78, h⟩ := h
      refine j_sub [4, 3, 2, 1, 0] rfl ?_
      exact m_X11_breaks_L31 E  n78 v0 b74 (-2 : Int32) (0 : Int32) (0 : Int32) Z I70 L71 hZ hx kv0 kb74 h
    · have h := h.2 c77
      refine j_iconst E (v := -1) dX11_breaks_20 (by decide) ?_
      exact j_ireturn E ⟨hx, hZ, _, rfl, h⟩ (Nat.zero_le _) (Nat.zero_le _) dX11_breaks_21
set_option maxRecDepth 100000 in
def f_X11_sumUp_b107 (K7 : Nat → Int32 → Nat → Int32 → jZ → jI → jL → Prop) (Q : jZ → jI → jL → Prop) (v0 : Nat) (v1 : Int32) (v2 : Nat) (v3 : Int32) (Z : jZ) (I : jI) (L : jL) : Prop := (∀ x1 : Int32, x1 = v3 + 1 → K7 v0 v1 v2 x1 Z I L)
set_option maxHeartbeats 4000000 in
set_option maxRecDepth 100000 in
theorem m_X11_sumUp_b107 {G : jG} {Z0 : jZ} {Q : jZ → jI → jL → Prop} (E : jE G cX11_sumUp RX11 w_X11_sumUp 7 none { frames := 6, cells := 0, slots := 0, locals := 150 } (xrtV Z0 Q)) (K7 : Nat → Int32 → Nat → Int32 → jZ → jI → jL → Prop) (hK7 : ∀ (v0 : Nat) (v1 : Int32) (v2 : Nat) (v3 : Int32) (Z : jZ) (I : jI) (L : jL), SH Z → jext Z0 Z → jk Z v0 11 → jk Z v2 14 → K7 v0 v1 v2 v3 Z I L → jJ G 7 7 [(0, .ref v0), (1, .int v1), (2, .ref v2), (3, .int v3)] [] Z I L 0 0) (v0 : Nat) (v1 : Int32) (v2 : Nat) (v3 : Int32) (Z : jZ) (I : jI) (L : jL) (hZ : SH Z) (hx : jext Z0 Z) (kv0 : jk Z v0 11) (kv2 : jk Z v2 14) (h : f_X11_sumUp_b107 K7 Q v0 v1 v2 v3 Z I L) : jJ G 7 107 [(0, .ref v0), (1, .int v1), (2, .ref v2), (3, .int v3)] [] Z I L 0 0 := by
  obtain ⟨x1, ex1⟩ : ∃ y : Int32, y = v3 + 1 := ⟨_, rfl⟩
  have h := h x1 ex1
  refine j_iinc E x1 [(3, .int x1), (0, .ref v0), (1, .int v1), (2, .ref v2)] dX11_sumUp_107 3 rfl (by rw [ex1]; rfl) (by decide) rfl ?_
  refine j_goto E 7 dX11_sumUp_110 (by decide) ?_
  refine j_sub [1, 2, 3, 0] rfl ?_
  exact hK7 v0 v1 v2 x1 Z I L hZ hx kv0 kv2 h
set_option maxRecDepth 100000 in
def f_X11_sumUp_L7  (Q : jZ → jI → jL → Prop) : Nat → Nat → Int32 → Nat → Int32 → jZ → jI → jL → Prop
  | 0 => fun _ _ _ _ _ _ _ => False
  | n + 1 => fun v0 v1 v2 v3 Z I L => (((I v0 4) ≤ v3 → Q Z I L) ∧ (¬ ((I v0 4) ≤ v3) → (∀ b3 : Nat, jr Z v0 2 = some b3 → (((I b3 9) ≤ 0 → Q Z I L) ∧ (¬ ((I b3 9) ≤ 0) → (f_X11_find v0 v3 Z I L (fun r10 I7 L8 => ((r10 = none → f_X11_sumUp_b107 (f_X11_sumUp_L7 Q n) Q v0 v1 v2 v3 Z I7 L8) ∧ (∀ b11 : Nat, r10 = some b11 → (∀ b13 : Nat, jr Z b11 8 = some b13 → (f_X6_lay b13 (I7 b11 3) (I7 b11 4) v1 Z I7 L8 (fun I16 L17 => (∀ b19 : Nat, jr Z b11 8 = some b19 → (f_X6_cheapest b19 Z I16 L17 (fun r25 Z21 I22 L23 => (((lg_cmp r25 (9223372036854775807 : Int64)) = 0 → f_X11_sumUp_b107 (f_X11_sumUp_L7 Q n) Q v0 v1 v2 v3 Z21 I22 L23) ∧ (¬ ((lg_cmp r25 (9223372036854775807 : Int64)) = 0) → (vp_in (0 : Int32) (jlen Z21 v2) ∧ (vp_in (0 : Int32) (jlen Z21 v2) ∧ (∀ I32 : jI, I32 = jpI I22 v2 (0 : Int32).toNatClampNeg ((I22 v2 (0 : Int32).toNatClampNeg) + (1 : Int32)) → (vp_in (1 : Int32) (jlen Z21 v2) ∧ (f_X11_costIn r25 Z21 I32 L23 (fun r39 I36 L37 => (vp_in (1 : Int32) (jlen Z21 v2) ∧ (∀ I41 : jI, I41 = jpI I36 v2 (1 : Int32).toNatClampNeg ((I32 v2 (1 : Int32).toNatClampNeg) + r39) → (vp_in (2 : Int32) (jlen Z21 v2) ∧ (f_X11_effortIn r25 Z21 I41 L37 (fun r48 I45 L46 => (vp_in (2 : Int32) (jlen Z21 v2) ∧ (∀ I50 : jI, I50 = jpI I45 v2 (2 : Int32).toNatClampNeg ((I41 v2 (2 : Int32).toNatClampNeg) + r48) → f_X11_sumUp_b107 (f_X11_sumUp_L7 Q n) Q v0 v1 v2 v3 Z21 I50 L46))))))))))))))))))))))))))))))
set_option maxHeartbeats 4000000 in
set_option maxRecDepth 100000 in
theorem m_X11_sumUp_L7 {G : jG} {Z0 : jZ} {Q : jZ → jI → jL → Prop} (E : jE G cX11_sumUp RX11 w_X11_sumUp 7 none { frames := 6, cells := 0, slots := 0, locals := 150 } (xrtV Z0 Q))  : ∀ (n : Nat) (v0 : Nat) (v1 : Int32) (v2 : Nat) (v3 : Int32) (Z : jZ) (I : jI) (L : jL), SH Z → jext Z0 Z → jk Z v0 11 → jk Z v2 14 → f_X11_sumUp_L7  Q n v0 v1 v2 v3 Z I L → jJ G 7 7 [(0, .ref v0), (1, .int v1), (2, .ref v2), (3, .int v3)] [] Z I L 0 0 := by
  intro n
  induction n with
  | zero => intro v0 v1 v2 v3 Z I L _ _ _ _ h; exact h.elim
  | succ n ih =>
    intro v0 v1 v2 v3 Z I L hZ hx kv0 kv2 h
    have h : (((I v0 4) ≤ v3 → Q Z I L) ∧ (¬ ((I v0 4) ≤ v3) → (∀ b3 : Nat, jr Z v0 2 = some b3 → (((I b3 9) ≤ 0 → Q Z I L) ∧ (¬ ((I b3 9) ≤ 0) → (f_X11_find v0 v3 Z I L (fun r10 I7 L8 => ((r10 = none → f_X11_sumUp_b107 (f_X11_sumUp_L7 Q n) Q v0 v1 v2 v3 Z I7 L8) ∧ (∀ b11 : Nat, r10 = some b11 → (∀ b13 : Nat, jr Z b11 8 = some b13 → (f_X6_lay b13 (I7 b11 3) (I7 b11 4) v1 Z I7 L8 (fun I16 L17 => (∀ b19 : Nat, jr Z b11 8 = some b19 → (f_X6_cheapest b19 Z I16 L17 (fun r25 Z21 I22 L23 => (((lg_cmp r25 (9223372036854775807 : Int64)) = 0 → f_X11_sumUp_b107 (f_X11_sumUp_L7 Q n) Q v0 v1 v2 v3 Z21 I22 L23) ∧ (¬ ((lg_cmp r25 (9223372036854775807 : Int64)) = 0) → (vp_in (0 : Int32) (jlen Z21 v2) ∧ (vp_in (0 : Int32) (jlen Z21 v2) ∧ (∀ I32 : jI, I32 = jpI I22 v2 (0 : Int32).toNatClampNeg ((I22 v2 (0 : Int32).toNatClampNeg) + (1 : Int32)) → (vp_in (1 : Int32) (jlen Z21 v2) ∧ (f_X11_costIn r25 Z21 I32 L23 (fun r39 I36 L37 => (vp_in (1 : Int32) (jlen Z21 v2) ∧ (∀ I41 : jI, I41 = jpI I36 v2 (1 : Int32).toNatClampNeg ((I32 v2 (1 : Int32).toNatClampNeg) + r39) → (vp_in (2 : Int32) (jlen Z21 v2) ∧ (f_X11_effortIn r25 Z21 I41 L37 (fun r48 I45 L46 => (vp_in (2 : Int32) (jlen Z21 v2) ∧ (∀ I50 : jI, I50 = jpI I45 v2 (2 : Int32).toNatClampNeg ((I41 v2 (2 : Int32).toNatClampNeg) + r48) → f_X11_sumUp_b107 (f_X11_sumUp_L7 Q n) Q v0 v1 v2 v3 Z21 I50 L46)))))))))))))))))))))))))))))) := h
    obtain ⟨K7, eK7⟩ : ∃ K : Nat → Int32 → Nat → Int32 → jZ → jI → jL → Prop, K = f_X11_sumUp_L7  Q n := ⟨_, rfl⟩
    have hK7 := ih
    clear eK7 K7
    generalize f_X11_sumUp_L7  Q n = K7 at hK7 h
    refine j_iload_n E dX11_sumUp_7 3 rfl ?_
    refine j_aload_n E dX11_sumUp_8 0 rfl ?_
    refine j_geti E 11 4 rfl rfl (by decide) (by decide) (iw iT_11) rfl rfl (tw W_415) kv0 dX11_sumUp_9 ?_
    refine j_icmp_ge E 113 dX11_sumUp_12 (by decide) (fun c2 => ?_) (fun c2 => ?_)
    · have h := h.1 c2
      exact j_return E ⟨hx, hZ, rfl, h⟩ (Nat.zero_le _) (Nat.zero_le _) dX11_sumUp_113
    · have h := h.2 c2
      refine j_aload_n E dX11_sumUp_15 0 rfl ?_
      obtain ⟨b3, eb3, kb3⟩ := sh_o hZ kv0 (j := 2) (k := 8) rfl
      have h := h b3 eb3
      refine j_getr E 11 2 rfl rfl (by decide) (by decide) (iw iT_11) rfl rfl (tw W_438) kv0 eb3 dX11_sumUp_16 ?_
      refine j_getiN E 8 9 rfl rfl (by decide) (by decide) (iw iT_8) rfl rfl (nw_8_9_X11_172) kb3 dX11_sumUp_19 ?_
      refine j_if_le E 113 dX11_sumUp_22 (by decide) (fun c4 => ?_) (fun c4 => ?_)
      · have h := h.1 c4
        exact j_return E ⟨hx, hZ, rfl, h⟩ (Nat.zero_le _) (Nat.zero_le _) dX11_sumUp_113
      · have h := h.2 c4
        refine j_aload_n E dX11_sumUp_25 0 rfl ?_
        refine j_iload_n E dX11_sumUp_26 3 rfl ?_
        refine j_callV E [.int v3] [] (c_X11_find (gL G) (gD G) (gY G) v0 v3 Z I L _ hZ kv0 h) (gwV W_421 W_422 W_423 W_28 W_420) rfl ⟨rfl, fy_X11_find⟩ ⟨by decide, by decide⟩ (c := 11) rfl (by decide) kv0 rfl rfl (Nat.le_of_ble_eq_true rfl) ⟨Nat.zero_le _, Nat.zero_le _⟩ dX11_sumUp_27 (fun v5 Z6 I7 L8 q9 => ?_)
        obtain ⟨rfl, r10, rfl, zr10, h⟩ := q9
        show jJ G 7 30 [(0, .ref v0), (1, .int v1), (2, .ref v2), (3, .int v3)] (va_rf r10 :: []) Z I7 L8 0 0
        rcases c12 : r10 with _ | b11
        · have h := h.1 c12
          refine j_rfN rfl ?_
          refine j_astoreN E 4 [(4, .null), (0, .ref v0), (1, .int v1), (2, .ref v2), (3, .int v3)] dX11_sumUp_30 (by decide) rfl ?_
          refine j_aloadN E dX11_sumUp_32 0 rfl ?_
          refine j_ifnonnullN E dX11_sumUp_34 ?_
          refine j_goto E 107 dX11_sumUp_37 (by decide) ?_
          refine j_sub [1, 2, 3, 4] rfl ?_
          exact m_X11_sumUp_b107 E K7 hK7 v0 v1 v2 v3 Z I7 L8 hZ hx kv0 kv2 h
        · have h := h.2 b11 c12
          have kb11 := zr10 b11 c12
          refine j_rfS rfl ?_
          refine j_astore E 4 [(4, .ref b11), (0, .ref v0), (1, .int v1), (2, .ref v2), (3, .int v3)] dX11_sumUp_30 (by decide) rfl ?_
          refine j_aload E dX11_sumUp_32 0 rfl ?_
          refine j_ifnonnull E 40 dX11_sumUp_34 (by decide) ?_
          refine j_aload E dX11_sumUp_40 0 rfl ?_
          obtain ⟨b13, eb13, kb13⟩ := sh_o hZ kb11 (j := 8) (k := 6) rfl
          have h := h b13 eb13
          refine j_getrN E 5 8 rfl rfl (by decide) (by decide) (iw iT_5) rfl rfl (nw_5_8_X11_263) kb11 eb13 dX11_sumUp_42 ?_
          refine j_aload E dX11_sumUp_45 0 rfl ?_
          refine j_getiN E 5 3 rfl rfl (by decide) (by decide) (iw iT_5) rfl rfl (nw_5_3_X11_213) kb11 dX11_sumUp_47 ?_
          refine j_aload E dX11_sumUp_50 0 rfl ?_
          refine j_getiN E 5 4 rfl rfl (by decide) (by decide) (iw iT_5) rfl rfl (nw_5_4_X11_196) kb11 dX11_sumUp_52 ?_
          refine j_iload_n E dX11_sumUp_55 2 rfl ?_
          refine j_callV E [.int (I7 b11 3), .int (I7 b11 4), .int v1] [] (c_X6_lay (gL G) (gD G) (gY G) b13 (I7 b11 3) (I7 b11 4) v1 Z I7 L8 _ hZ kb13 h) (gwV W_516 W_517 W_518 W_21 W_515) rfl ⟨rfl, fy_X6_lay⟩ ⟨by decide, by decide⟩ (c := 6) rfl (by decide) kb13 rfl rfl (Nat.le_of_ble_eq_true rfl) ⟨Nat.zero_le _, Nat.zero_le _⟩ dX11_sumUp_56 (fun v14 Z15 I16 L17 q18 => ?_)
          obtain ⟨rfl, rfl, h⟩ := q18
          show jJ G 7 59 [(4, .ref b11), (0, .ref v0), (1, .int v1), (2, .ref v2), (3, .int v3)] [] Z I16 L17 0 0
          refine j_aload E dX11_sumUp_59 0 rfl ?_
          obtain ⟨b19, eb19, kb19⟩ := sh_o hZ kb11 (j := 8) (k := 6) rfl
          have h := h b19 eb19
          refine j_getrN E 5 8 rfl rfl (by decide) (by decide) (iw iT_5) rfl rfl (nw_5_8_X11_263) kb11 eb19 dX11_sumUp_61 ?_
          refine j_callV E [] [] (c_X6_cheapest (gL G) (gD G) (gY G) b19 Z I16 L17 _ hZ kb19 h) (gwV W_520 W_521 W_522 W_21 W_519) rfl ⟨rfl, fy_X6_cheapest⟩ ⟨by decide, by decide⟩ (c := 6) rfl (by decide) kb19 rfl rfl (Nat.le_of_ble_eq_true rfl) ⟨Nat.zero_le _, Nat.zero_le _⟩ dX11_sumUp_64 (fun v20 Z21 I22 L23 q24 => ?_)
          obtain ⟨yZ21, hZ21, r25, rfl, h⟩ := q24
          have hZ := hZ21
          have hx : jext Z0 Z21 := jext_trans hx yZ21
          have k26 := (yZ21 _ _ kv0).1
          have k27 := (yZ21 _ _ kv2).1
          have k28 := (yZ21 _ _ kb11).1
          show jJ G 7 67 [(4, .ref b11), (0, .ref v0), (1, .int v1), (2, .ref v2), (3, .int v3)] [.long r25] Z21 I22 L23 0 0
          refine j_lstore E 5 [(5, .long r25), (4, .ref b11), (0, .ref v0), (1, .int v1), (2, .ref v2), (3, .int v3)] dX11_sumUp_67 (by decide) rfl ?_
          refine j_lload E dX11_sumUp_69 0 rfl ?_
          refine j_ldc2 E (tw W_523) dX11_sumUp_71 ?_
          refine j_lcmp E dX11_sumUp_74 ?_
          refine j_if_eq E 107 dX11_sumUp_75 (by decide) (fun c29 => ?_) (fun c29 => ?_)
          · have h := h.1 c29
            refine j_sub [2, 3, 4, 5] rfl ?_
            exact m_X11_sumUp_b107 E K7 hK7 v0 v1 v2 v3 Z21 I22 L23 hZ hx k26 k27 h
          · have h := h.2 c29
            refine j_aload_n E dX11_sumUp_78 4 rfl ?_
            refine j_iconst E (v := 0) dX11_sumUp_79 (by decide) ?_
            refine j_dup2_11 E dX11_sumUp_80 rfl rfl ?_
            obtain ⟨o30, h⟩ := h
            refine j_iald E k27 o30 dX11_sumUp_81 ?_
            refine j_iconst E (v := 1) dX11_sumUp_82 (by decide) ?_
            refine j_iadd E dX11_sumUp_83 ?_
            obtain ⟨o31, h⟩ := h
            refine j_iast E k27 o31 dX11_sumUp_84 ?_
            refine j_nmI (fun I32 eI32 => ?_)
            have h := h I32 eI32
            refine j_aload_n E dX11_sumUp_85 4 rfl ?_
            refine j_iconst E (v := 1) dX11_sumUp_86 (by decide) ?_
            refine j_dup2_11 E dX11_sumUp_87 rfl rfl ?_
            obtain ⟨o33, h⟩ := h
            refine j_iald E k27 o33 dX11_sumUp_88 ?_
            refine j_lload E dX11_sumUp_89 0 rfl ?_
            refine j_callS E [.long r25] [.int (I32 v2 (1 : Int32).toNatClampNeg), .int (1 : Int32), .ref v2] (c_X11_costIn (gL G) (gD G) (gY G) r25 Z21 I32 L23 _ hZ  h) (gwS W_513 W_55 W_28 W_54) rfl fy_X11_costIn ⟨by decide, by decide⟩ rfl rfl (Nat.le_of_ble_eq_true rfl) ⟨Nat.zero_le _, Nat.zero_le _⟩ dX11_sumUp_91 (fun v34 Z35 I36 L37 q38 => ?_)
            obtain ⟨rfl, r39, rfl, h⟩ := q38
            show jJ G 7 94 [(5, .long r25), (4, .ref b11), (0, .ref v0), (1, .int v1), (2, .ref v2), (3, .int v3)] [.int r39, .int (I32 v2 (1 : Int32).toNatClampNeg), .int (1 : Int32), .ref v2] Z21 I36 L37 0 0
            refine j_iadd E dX11_sumUp_94 ?_
            obtain ⟨o40, h⟩ := h
            refine j_iast E k27 o40 dX11_sumUp_95 ?_
            refine j_nmI (fun I41 eI41 => ?_)
            have h := h I41 eI41
            refine j_aload_n E dX11_sumUp_96 4 rfl ?_
            refine j_iconst E (v := 2) dX11_sumUp_97 (by decide) ?_
            refine j_dup2_11 E dX11_sumUp_98 rfl rfl ?_
            obtain ⟨o42, h⟩ := h
            refine j_iald E k27 o42 dX11_sumUp_99 ?_
            refine j_lload E dX11_sumUp_100 0 rfl ?_
            refine j_callS E [.long r25] [.int (I41 v2 (2 : Int32).toNatClampNeg), .int (2 : Int32), .ref v2] (c_X11_effortIn (gL G) (gD G) (gY G) r25 Z21 I41 L37 _ hZ  h) (gwS W_524 W_57 W_28 W_56) rfl fy_X11_effortIn ⟨by decide, by decide⟩ rfl rfl (Nat.le_of_ble_eq_true rfl) ⟨Nat.zero_le _, Nat.zero_le _⟩ dX11_sumUp_102 (fun v43 Z44 I45 L46 q47 => ?_)
            obtain ⟨rfl, r48, rfl, h⟩ := q47
            show jJ G 7 105 [(5, .long r25), (4, .ref b11), (0, .ref v0), (1, .int v1), (2, .ref v2), (3, .int v3)] [.int r48, .int (I41 v2 (2 : Int32).toNatClampNeg), .int (2 : Int32), .ref v2] Z21 I45 L46 0 0
            refine j_iadd E dX11_sumUp_105 ?_
            obtain ⟨o49, h⟩ := h
            refine j_iast E k27 o49 dX11_sumUp_106 ?_
            refine j_nmI (fun I50 eI50 => ?_)
            have h := h I50 eI50
            refine j_sub [2, 3, 4, 5] rfl ?_
            exact m_X11_sumUp_b107 E K7 hK7 v0 v1 v2 v3 Z21 I50 L46 hZ hx k26 k27 h
set_option maxRecDepth 100000 in
def f_X11_sumUp (v0 : Nat) (v1 : Int32) (v2 : Nat) (Z : jZ) (I : jI) (L : jL) (Q : jZ → jI → jL → Prop) : Prop := (f_J7_fill_53178 v2 (0 : Int32) Z I L (fun I53 L54 => (∃ m7 : Nat, f_X11_sumUp_L7  Q m7 v0 v1 v2 (0 : Int32) Z I53 L54)))
set_option maxHeartbeats 4000000 in
set_option maxRecDepth 100000 in
theorem c_X11_sumUp (l : Launch) (D : va_G) (cy : jC) (v0 : Nat) (v1 : Int32) (v2 : Nat) (Z : jZ) (I : jI) (L : jL) (Q : jZ → jI → jL → Prop) (hZ : SH Z) (kv0 : jk Z v0 11) (kv2 : jk Z v2 14) (h : f_X11_sumUp v0 v1 v2 Z I L Q) : jCt l yX11_sumUp w_X11_sumUp { frames := 6, cells := 0, slots := 0, locals := 150 } D cy [.ref v0, .int v1, .ref v2] Z I L (xrtV Z Q) := by
  refine jCt_of (cc := cX11_sumUp) (maxL := 7) (ret := none) (by decide +kernel) rfl (Nat.le_of_ble_eq_true rfl) ?_
  intro G eD eY eL E
  subst eD; subst eY; subst eL
  have E : jE G cX11_sumUp RX11 w_X11_sumUp 7 none { frames := 6, cells := 0, slots := 0, locals := 150 } (xrtV Z Q) := E
  have hx : jext Z Z := jext_rfl
  show jJ G 7 0 [(0, .ref v0), (1, .int v1), (2, .ref v2)] [] Z I L 0 0
  refine j_aload_n E dX11_sumUp_0 2 rfl ?_
  refine j_iconst E (v := 0) dX11_sumUp_1 (by decide) ?_
  refine j_callS E [.ref v2, .int (0 : Int32)] [] (c_J7_fill_53178 (gL G) (gD G) (gY G) v2 (0 : Int32) Z I L _ hZ kv2 h) (gwS W_419 W_10 W_8 W_7) rfl fy_J7_fill_53178 ⟨by decide, by decide⟩ rfl rfl (Nat.le_of_ble_eq_true rfl) ⟨Nat.zero_le _, Nat.zero_le _⟩ dX11_sumUp_2 (fun v51 Z52 I53 L54 q55 => ?_)
  obtain ⟨rfl, rfl, h⟩ := q55
  show jJ G 7 5 [(0, .ref v0), (1, .int v1), (2, .ref v2)] [] Z I53 L54 0 0
  refine j_iconst E (v := 0) dX11_sumUp_5 (by decide) ?_
  refine j_istore_n E 3 [(3, .int (0 : Int32)), (0, .ref v0), (1, .int v1), (2, .ref v2)] dX11_sumUp_6 rfl (by decide) rfl ?_
  obtain ⟨n56, h⟩ := h
  refine j_sub [1, 2, 3, 0] rfl ?_
  exact m_X11_sumUp_L7 E  n56 v0 v1 v2 (0 : Int32) Z I53 L54 hZ hx kv0 kv2 h
set_option maxRecDepth 100000 in
def f_X11_all (v0 : Nat) (Z : jZ) (I : jI) (L : jL) (Q : Int32 → jZ → jI → jL → Prop) : Prop := (∀ b1 : Nat, jr Z v0 11 = some b1 → (f_X11_sumUp v0 (-1 : Int32) b1 Z I L (fun Z3 I4 L5 => (∀ b8 : Nat, jr Z3 v0 11 = some b8 → (∀ b9 : Nat, jr Z3 v0 11 = some b9 → (f_X11_tellTwo v0 ((I4 b8 (0 : Int32).toNatClampNeg).toInt64) ((I4 b9 (2 : Int32).toNatClampNeg).toInt64) Z3 I4 L5 (fun I12 L13 => (∀ b15 : Nat, jr Z3 v0 11 = some b15 → Q (I12 b15 (1 : Int32).toNatClampNeg) Z3 I12 L13))))))))
set_option maxHeartbeats 4000000 in
set_option maxRecDepth 100000 in
theorem c_X11_all (l : Launch) (D : va_G) (cy : jC) (v0 : Nat) (Z : jZ) (I : jI) (L : jL) (Q : Int32 → jZ → jI → jL → Prop) (hZ : SH Z) (kv0 : jk Z v0 11) (h : f_X11_all v0 Z I L Q) : jCt l yX11_all w_X11_all { frames := 7, cells := 0, slots := 0, locals := 176 } D cy [.ref v0] Z I L (xrtI Z Q) := by
  refine jCt_of (cc := cX11_all) (maxL := 1) (ret := (some .int)) (by decide +kernel) rfl (Nat.le_of_ble_eq_true rfl) ?_
  intro G eD eY eL E
  subst eD; subst eY; subst eL
  have E : jE G cX11_all RX11 w_X11_all 1 (some .int) { frames := 7, cells := 0, slots := 0, locals := 176 } (xrtI Z Q) := E
  have hx : jext Z Z := jext_rfl
  show jJ G 1 0 [(0, .ref v0)] [] Z I L 0 0
  refine j_aload_n E dX11_all_0 0 rfl ?_
  refine j_iconst E (v := -1) dX11_all_1 (by decide) ?_
  refine j_aload_n E dX11_all_2 0 rfl ?_
  obtain ⟨b1, eb1, kb1, lb1⟩ := sh_f hZ kv0 (j := 11) (k := 14) (m := 3) rfl
  have h := h b1 eb1
  refine j_getr E 11 11 rfl rfl (by decide) (by decide) (iw iT_11) rfl rfl (tw W_546) kv0 eb1 dX11_all_3 ?_
  refine j_callV E [.int (-1 : Int32), .ref b1] [] (c_X11_sumUp (gL G) (gD G) (gY G) v0 (-1 : Int32) b1 Z I L _ hZ kv0 kb1 h) (gwV W_548 W_549 W_550 W_28 W_547) rfl ⟨rfl, fy_X11_sumUp⟩ ⟨by decide, by decide⟩ (c := 11) rfl (by decide) kv0 rfl rfl (Nat.le_of_ble_eq_true rfl) ⟨Nat.zero_le _, Nat.zero_le _⟩ dX11_all_6 (fun v2 Z3 I4 L5 q6 => ?_)
  obtain ⟨yZ3, hZ3, rfl, h⟩ := q6
  have hZ := hZ3
  have hx : jext Z Z3 := jext_trans hx yZ3
  have k7 := (yZ3 _ _ kv0).1
  show jJ G 1 9 [(0, .ref v0)] [] Z3 I4 L5 0 0
  refine j_aload_n E dX11_all_9 0 rfl ?_
  refine j_aload_n E dX11_all_10 0 rfl ?_
  obtain ⟨b8, eb8, kb8, lb8⟩ := sh_f hZ k7 (j := 11) (k := 14) (m := 3) rfl
  have h := h b8 eb8
  refine j_getr E 11 11 rfl rfl (by decide) (by decide) (iw iT_11) rfl rfl (tw W_546) k7 eb8 dX11_all_11 ?_
  refine j_iconst E (v := 0) dX11_all_14 (by decide) ?_
  refine j_iald E kb8 (by rw [lb8]; exact vp_in_lit (by decide)) dX11_all_15 ?_
  refine j_i2l E dX11_all_16 ?_
  refine j_aload_n E dX11_all_17 0 rfl ?_
  obtain ⟨b9, eb9, kb9, lb9⟩ := sh_f hZ k7 (j := 11) (k := 14) (m := 3) rfl
  have h := h b9 eb9
  refine j_getr E 11 11 rfl rfl (by decide) (by decide) (iw iT_11) rfl rfl (tw W_546) k7 eb9 dX11_all_18 ?_
  refine j_iconst E (v := 2) dX11_all_21 (by decide) ?_
  refine j_iald E kb9 (by rw [lb9]; exact vp_in_lit (by decide)) dX11_all_22 ?_
  refine j_i2l E dX11_all_23 ?_
  refine j_callV E [.long ((I4 b8 (0 : Int32).toNatClampNeg).toInt64), .long ((I4 b9 (2 : Int32).toNatClampNeg).toInt64)] [] (c_X11_tellTwo (gL G) (gD G) (gY G) v0 ((I4 b8 (0 : Int32).toNatClampNeg).toInt64) ((I4 b9 (2 : Int32).toNatClampNeg).toInt64) Z3 I4 L5 _ hZ k7 h) (gwV W_485 W_486 W_487 W_28 W_484) rfl ⟨rfl, fy_X11_tellTwo⟩ ⟨by decide, by decide⟩ (c := 11) rfl (by decide) k7 rfl rfl (Nat.le_of_ble_eq_true rfl) ⟨Nat.zero_le _, Nat.zero_le _⟩ dX11_all_24 (fun v10 Z11 I12 L13 q14 => ?_)
  obtain ⟨rfl, rfl, h⟩ := q14
  show jJ G 1 27 [(0, .ref v0)] [] Z3 I12 L13 0 0
  refine j_aload_n E dX11_all_27 0 rfl ?_
  obtain ⟨b15, eb15, kb15, lb15⟩ := sh_f hZ k7 (j := 11) (k := 14) (m := 3) rfl
  have h := h b15 eb15
  refine j_getr E 11 11 rfl rfl (by decide) (by decide) (iw iT_11) rfl rfl (tw W_546) k7 eb15 dX11_all_28 ?_
  refine j_iconst E (v := 1) dX11_all_31 (by decide) ?_
  refine j_iald E kb15 (by rw [lb15]; exact vp_in_lit (by decide)) dX11_all_32 ?_
  exact j_ireturn E ⟨hx, hZ, _, rfl, h⟩ (Nat.zero_le _) (Nat.zero_le _) dX11_all_33
set_option maxRecDepth 100000 in
def f_X11_tellDifferences_b56 (K8 : Nat → Int32 → Int32 → jI → jL → Prop) (Z : jZ) (Q : Int32 → jI → jL → Prop) (v0 : Nat) (v2 : Int32) (s0 : Int32) (s1 : Int32) (I : jI) (L : jL) : Prop := (∀ x1 : Int32, x1 = (s0 ||| s1) → (∀ x2 : Int32, x2 = v2 + 1 → K8 v0 x1 x2 I L))
set_option maxHeartbeats 4000000 in
set_option maxRecDepth 100000 in
theorem m_X11_tellDifferences_b56 {G : jG} {Z : jZ} {Q : Int32 → jI → jL → Prop} (E : jE G cX11_tellDifferences RX11 w_X11_tellDifferences 3 (some .int) { frames := 1, cells := 0, slots := 0, locals := 22 } (rtI Z Q)) (hZ : SH Z) (K8 : Nat → Int32 → Int32 → jI → jL → Prop) (hK8 : ∀ (v0 : Nat) (v1 : Int32) (v2 : Int32) (I : jI) (L : jL), jk Z v0 11 → K8 v0 v1 v2 I L → jJ G 3 8 [(0, .ref v0), (1, .int v1), (2, .int v2)] [] Z I L 0 0) (v0 : Nat) (v2 : Int32) (s0 : Int32) (s1 : Int32) (I : jI) (L : jL) (kv0 : jk Z v0 11) (h : f_X11_tellDifferences_b56 K8 Z Q v0 v2 s0 s1 I L) : jJ G 3 56 [(0, .ref v0), (2, .int v2)] [.int s1, .int s0] Z I L 0 0 := by
  refine j_ior E dX11_tellDifferences_56 ?_
  refine j_topi (fun x1 ex1 => ?_)
  have h := h x1 ex1
  refine j_istore_n E 1 [(1, .int x1), (0, .ref v0), (2, .int v2)] dX11_tellDifferences_57 rfl (by decide) rfl ?_
  obtain ⟨x2, ex2⟩ : ∃ y : Int32, y = v2 + 1 := ⟨_, rfl⟩
  have h := h x2 ex2
  refine j_iinc E x2 [(2, .int x2), (1, .int x1), (0, .ref v0)] dX11_tellDifferences_58 2 rfl (by rw [ex2]; rfl) (by decide) rfl ?_
  refine j_goto E 8 dX11_tellDifferences_61 (by decide) ?_
  refine j_sub [2, 1, 0] rfl ?_
  exact hK8 v0 x1 x2 I L kv0 h
set_option maxRecDepth 100000 in
def f_X11_tellDifferences_L8  (Z : jZ) (Q : Int32 → jI → jL → Prop) : Nat → Nat → Int32 → Int32 → jI → jL → Prop
  | 0 => fun _ _ _ _ _ => False
  | n + 1 => fun v0 v1 v2 I L => (∀ b3 : Nat, jr Z v0 11 = some b3 → (((3 : Int32) ≤ v2 → ((v1 = 0 → Q (0 : Int32) I L) ∧ (¬ (v1 = 0) → Q (1 : Int32) I L))) ∧ (¬ ((3 : Int32) ≤ v2) → (∀ b6 : Nat, jr Z v0 12 = some b6 → (vp_in v2 3 ∧ (∀ b8 : Nat, jr Z v0 11 = some b8 → (vp_in v2 3 ∧ (f_X11_tellMore v0 (((I b6 v2.toNatClampNeg) - (I b8 v2.toNatClampNeg)).toInt64) Z I L (fun I12 L13 => (∀ b15 : Nat, jr Z v0 12 = some b15 → (vp_in v2 3 ∧ (∀ b17 : Nat, jr Z v0 11 = some b17 → (vp_in v2 3 ∧ (((I12 b15 v2.toNatClampNeg) = (I12 b17 v2.toNatClampNeg) → f_X11_tellDifferences_b56 (f_X11_tellDifferences_L8 Z Q n) Z Q v0 v2 v1 (0 : Int32) I12 L13) ∧ (¬ ((I12 b15 v2.toNatClampNeg) = (I12 b17 v2.toNatClampNeg)) → f_X11_tellDifferences_b56 (f_X11_tellDifferences_L8 Z Q n) Z Q v0 v2 v1 (1 : Int32) I12 L13)))))))))))))))
set_option maxHeartbeats 4000000 in
set_option maxRecDepth 100000 in
theorem m_X11_tellDifferences_L8 {G : jG} {Z : jZ} {Q : Int32 → jI → jL → Prop} (E : jE G cX11_tellDifferences RX11 w_X11_tellDifferences 3 (some .int) { frames := 1, cells := 0, slots := 0, locals := 22 } (rtI Z Q)) (hZ : SH Z)  : ∀ (n : Nat) (v0 : Nat) (v1 : Int32) (v2 : Int32) (I : jI) (L : jL), jk Z v0 11 → f_X11_tellDifferences_L8  Z Q n v0 v1 v2 I L → jJ G 3 8 [(0, .ref v0), (1, .int v1), (2, .int v2)] [] Z I L 0 0 := by
  intro n
  induction n with
  | zero => intro v0 v1 v2 I L _ h; exact h.elim
  | succ n ih =>
    intro v0 v1 v2 I L kv0 h
    have h : (∀ b3 : Nat, jr Z v0 11 = some b3 → (((3 : Int32) ≤ v2 → ((v1 = 0 → Q (0 : Int32) I L) ∧ (¬ (v1 = 0) → Q (1 : Int32) I L))) ∧ (¬ ((3 : Int32) ≤ v2) → (∀ b6 : Nat, jr Z v0 12 = some b6 → (vp_in v2 3 ∧ (∀ b8 : Nat, jr Z v0 11 = some b8 → (vp_in v2 3 ∧ (f_X11_tellMore v0 (((I b6 v2.toNatClampNeg) - (I b8 v2.toNatClampNeg)).toInt64) Z I L (fun I12 L13 => (∀ b15 : Nat, jr Z v0 12 = some b15 → (vp_in v2 3 ∧ (∀ b17 : Nat, jr Z v0 11 = some b17 → (vp_in v2 3 ∧ (((I12 b15 v2.toNatClampNeg) = (I12 b17 v2.toNatClampNeg) → f_X11_tellDifferences_b56 (f_X11_tellDifferences_L8 Z Q n) Z Q v0 v2 v1 (0 : Int32) I12 L13) ∧ (¬ ((I12 b15 v2.toNatClampNeg) = (I12 b17 v2.toNatClampNeg)) → f_X11_tellDifferences_b56 (f_X11_tellDifferences_L8 Z Q n) Z Q v0 v2 v1 (1 : Int32) I12 L13))))))))))))))) := h
    obtain ⟨K8, eK8⟩ : ∃ K : Nat → Int32 → Int32 → jI → jL → Prop, K = f_X11_tellDifferences_L8  Z Q n := ⟨_, rfl⟩
    have hK8 := ih
    clear eK8 K8
    generalize f_X11_tellDifferences_L8  Z Q n = K8 at hK8 h
    refine j_iload_n E dX11_tellDifferences_8 2 rfl ?_
    refine j_aload_n E dX11_tellDifferences_9 0 rfl ?_
    obtain ⟨b3, eb3, kb3, lb3⟩ := sh_f hZ kv0 (j := 11) (k := 14) (m := 3) rfl
    have h := h b3 eb3
    refine j_getr E 11 11 rfl rfl (by decide) (by decide) (iw iT_11) rfl rfl (tw W_546) kv0 eb3 dX11_tellDifferences_10 ?_
    refine j_alen14 E (v := 3) kb3 (by rw [lb3]; rfl) dX11_tellDifferences_13 ?_
    refine j_icmp_ge E 64 dX11_tellDifferences_14 (by decide) (fun c4 => ?_) (fun c4 => ?_)
    · have h := h.1 c4
      refine j_iload_n E dX11_tellDifferences_64 1 rfl ?_
      refine j_if_eq E 72 dX11_tellDifferences_65 (by decide) (fun c5 => ?_) (fun c5 => ?_)
      · have h := h.1 c5
        refine j_iconst E (v := 0) dX11_tellDifferences_72 (by decide) ?_
        exact j_ireturn E ⟨rfl, _, rfl, h⟩ (Nat.zero_le _) (Nat.zero_le _) dX11_tellDifferences_73
      · have h := h.2 c5
        refine j_iconst E (v := 1) dX11_tellDifferences_68 (by decide) ?_
        refine j_goto E 73 dX11_tellDifferences_69 (by decide) ?_
        exact j_ireturn E ⟨rfl, _, rfl, h⟩ (Nat.zero_le _) (Nat.zero_le _) dX11_tellDifferences_73
    · have h := h.2 c4
      refine j_aload_n E dX11_tellDifferences_17 0 rfl ?_
      refine j_aload_n E dX11_tellDifferences_18 0 rfl ?_
      obtain ⟨b6, eb6, kb6, lb6⟩ := sh_f hZ kv0 (j := 12) (k := 14) (m := 3) rfl
      have h := h b6 eb6
      refine j_getr E 11 12 rfl rfl (by decide) (by decide) (iw iT_11) rfl rfl (tw W_551) kv0 eb6 dX11_tellDifferences_19 ?_
      refine j_iload_n E dX11_tellDifferences_22 2 rfl ?_
      obtain ⟨o7, h⟩ := h
      refine j_iald E kb6 (by rw [lb6]; exact o7) dX11_tellDifferences_23 ?_
      refine j_aload_n E dX11_tellDifferences_24 0 rfl ?_
      obtain ⟨b8, eb8, kb8, lb8⟩ := sh_f hZ kv0 (j := 11) (k := 14) (m := 3) rfl
      have h := h b8 eb8
      refine j_getr E 11 11 rfl rfl (by decide) (by decide) (iw iT_11) rfl rfl (tw W_546) kv0 eb8 dX11_tellDifferences_25 ?_
      refine j_iload_n E dX11_tellDifferences_28 2 rfl ?_
      obtain ⟨o9, h⟩ := h
      refine j_iald E kb8 (by rw [lb8]; exact o9) dX11_tellDifferences_29 ?_
      refine j_isub E dX11_tellDifferences_30 ?_
      refine j_i2l E dX11_tellDifferences_31 ?_
      refine j_callV E [.long (((I b6 v2.toNatClampNeg) - (I b8 v2.toNatClampNeg)).toInt64)] [] (c_X11_tellMore (gL G) (gD G) (gY G) v0 (((I b6 v2.toNatClampNeg) - (I b8 v2.toNatClampNeg)).toInt64) Z I L _ hZ kv0 h) (gwV W_472 W_473 W_474 W_28 W_471) rfl ⟨rfl, fy_X11_tellMore⟩ ⟨by decide, by decide⟩ (c := 11) rfl (by decide) kv0 rfl rfl (Nat.le_of_ble_eq_true rfl) ⟨Nat.zero_le _, Nat.zero_le _⟩ dX11_tellDifferences_32 (fun v10 Z11 I12 L13 q14 => ?_)
      obtain ⟨rfl, rfl, h⟩ := q14
      show jJ G 3 35 [(0, .ref v0), (1, .int v1), (2, .int v2)] [] Z I12 L13 0 0
      refine j_iload_n E dX11_tellDifferences_35 1 rfl ?_
      refine j_aload_n E dX11_tellDifferences_36 0 rfl ?_
      obtain ⟨b15, eb15, kb15, lb15⟩ := sh_f hZ kv0 (j := 12) (k := 14) (m := 3) rfl
      have h := h b15 eb15
      refine j_getr E 11 12 rfl rfl (by decide) (by decide) (iw iT_11) rfl rfl (tw W_551) kv0 eb15 dX11_tellDifferences_37 ?_
      refine j_iload_n E dX11_tellDifferences_40 2 rfl ?_
      obtain ⟨o16, h⟩ := h
      refine j_iald E kb15 (by rw [lb15]; exact o16) dX11_tellDifferences_41 ?_
      refine j_aload_n E dX11_tellDifferences_42 0 rfl ?_
      obtain ⟨b17, eb17, kb17, lb17⟩ := sh_f hZ kv0 (j := 11) (k := 14) (m := 3) rfl
      have h := h b17 eb17
      refine j_getr E 11 11 rfl rfl (by decide) (by decide) (iw iT_11) rfl rfl (tw W_546) kv0 eb17 dX11_tellDifferences_43 ?_
      refine j_iload_n E dX11_tellDifferences_46 2 rfl ?_
      obtain ⟨o18, h⟩ := h
      refine j_iald E kb17 (by rw [lb17]; exact o18) dX11_tellDifferences_47 ?_
      refine j_icmp_eq E 55 dX11_tellDifferences_48 (by decide) (fun c19 => ?_) (fun c19 => ?_)
      · have h := h.1 c19
        refine j_iconst E (v := 0) dX11_tellDifferences_55 (by decide) ?_
        refine j_sub [0, 2] rfl ?_
        exact m_X11_tellDifferences_b56 E hZ K8 hK8 v0 v2 v1 (0 : Int32) I12 L13 kv0 h
      · have h := h.2 c19
        refine j_iconst E (v := 1) dX11_tellDifferences_51 (by decide) ?_
        refine j_goto E 56 dX11_tellDifferences_52 (by decide) ?_
        refine j_sub [0, 2] rfl ?_
        exact m_X11_tellDifferences_b56 E hZ K8 hK8 v0 v2 v1 (1 : Int32) I12 L13 kv0 h
set_option maxRecDepth 100000 in
def f_X11_tellDifferences (v0 : Nat) (Z : jZ) (I : jI) (L : jL) (Q : Int32 → jI → jL → Prop) : Prop := (f_X11_tellNothing v0 Z I L (fun I22 L23 => (∃ m8 : Nat, f_X11_tellDifferences_L8  Z Q m8 v0 (0 : Int32) (0 : Int32) I22 L23)))
set_option maxHeartbeats 4000000 in
set_option maxRecDepth 100000 in
theorem c_X11_tellDifferences (l : Launch) (D : va_G) (cy : jC) (v0 : Nat) (Z : jZ) (I : jI) (L : jL) (Q : Int32 → jI → jL → Prop) (hZ : SH Z) (kv0 : jk Z v0 11) (h : f_X11_tellDifferences v0 Z I L Q) : jCt l yX11_tellDifferences w_X11_tellDifferences { frames := 1, cells := 0, slots := 0, locals := 22 } D cy [.ref v0] Z I L (rtI Z Q) := by
  refine jCt_of (cc := cX11_tellDifferences) (maxL := 3) (ret := (some .int)) (by decide +kernel) rfl (Nat.le_of_ble_eq_true rfl) ?_
  intro G eD eY eL E
  subst eD; subst eY; subst eL
  have E : jE G cX11_tellDifferences RX11 w_X11_tellDifferences 3 (some .int) { frames := 1, cells := 0, slots := 0, locals := 22 } (rtI Z Q) := E
  show jJ G 3 0 [(0, .ref v0)] [] Z I L 0 0
  refine j_aload_n E dX11_tellDifferences_0 0 rfl ?_
  refine j_callV E [] [] (c_X11_tellNothing (gL G) (gD G) (gY G) v0 Z I L _ hZ kv0 h) (gwV W_468 W_469 W_470 W_28 W_467) rfl ⟨rfl, fy_X11_tellNothing⟩ ⟨by decide, by decide⟩ (c := 11) rfl (by decide) kv0 rfl rfl (Nat.le_of_ble_eq_true rfl) ⟨Nat.zero_le _, Nat.zero_le _⟩ dX11_tellDifferences_1 (fun v20 Z21 I22 L23 q24 => ?_)
  obtain ⟨rfl, rfl, h⟩ := q24
  show jJ G 3 4 [(0, .ref v0)] [] Z I22 L23 0 0
  refine j_iconst E (v := 0) dX11_tellDifferences_4 (by decide) ?_
  refine j_istore_n E 1 [(1, .int (0 : Int32)), (0, .ref v0)] dX11_tellDifferences_5 rfl (by decide) rfl ?_
  refine j_iconst E (v := 0) dX11_tellDifferences_6 (by decide) ?_
  refine j_istore_n E 2 [(2, .int (0 : Int32)), (1, .int (0 : Int32)), (0, .ref v0)] dX11_tellDifferences_7 rfl (by decide) rfl ?_
  obtain ⟨n25, h⟩ := h
  refine j_sub [2, 1, 0] rfl ?_
  exact m_X11_tellDifferences_L8 E hZ  n25 v0 (0 : Int32) (0 : Int32) I22 L23 kv0 h
set_option maxRecDepth 100000 in
def f_X11_whole (v0 : Nat) (v1 : Int32) (Z : jZ) (I : jI) (L : jL) (Q : Int32 → jZ → jI → jL → Prop) : Prop := (∀ b1 : Nat, jr Z v0 2 = some b1 → (f_X8_has b1 v1 Z I L (fun r7 I4 L5 => ((¬ r7 = 0 → (∀ b9 : Nat, jr Z v0 11 = some b9 → (f_X11_sumUp v0 (-1 : Int32) b9 Z I4 L5 (fun Z11 I12 L13 => (∀ b16 : Nat, jr Z11 v0 2 = some b16 → (∀ b17 : Nat, jr Z11 b16 1 = some b17 → (vp_in v1 24 ∧ (∀ x19 : Int32, x19 = (I12 b17 v1.toNatClampNeg) → (∀ b20 : Nat, jr Z11 v0 2 = some b20 → (∀ b21 : Nat, jr Z11 b20 1 = some b21 → (vp_in v1 24 ∧ (∀ I23 : jI, I23 = jpI I12 b21 v1.toNatClampNeg (9 : Int32) → (∀ b24 : Nat, jr Z11 v0 12 = some b24 → (f_X11_sumUp v0 (-1 : Int32) b24 Z11 I23 L13 (fun Z26 I27 L28 => (∀ b31 : Nat, jr Z26 v0 2 = some b31 → (∀ b32 : Nat, jr Z26 b31 1 = some b32 → (vp_in v1 24 ∧ (∀ I34 : jI, I34 = jpI I27 b32 v1.toNatClampNeg x19 → (f_X11_tellDifferences v0 Z26 I34 L28 (fun r40 I37 L38 => Q r40 Z26 I37 L38))))))))))))))))))))) ∧ (r7 = 0 → Q (-1 : Int32) Z I4 L5)))))
set_option maxHeartbeats 4000000 in
set_option maxRecDepth 100000 in
theorem c_X11_whole (l : Launch) (D : va_G) (cy : jC) (v0 : Nat) (v1 : Int32) (Z : jZ) (I : jI) (L : jL) (Q : Int32 → jZ → jI → jL → Prop) (hZ : SH Z) (kv0 : jk Z v0 11) (h : f_X11_whole v0 v1 Z I L Q) : jCt l yX11_whole w_X11_whole { frames := 7, cells := 0, slots := 0, locals := 176 } D cy [.ref v0, .int v1] Z I L (xrtI Z Q) := by
  refine jCt_of (cc := cX11_whole) (maxL := 3) (ret := (some .int)) (by decide +kernel) rfl (Nat.le_of_ble_eq_true rfl) ?_
  intro G eD eY eL E
  subst eD; subst eY; subst eL
  have E : jE G cX11_whole RX11 w_X11_whole 3 (some .int) { frames := 7, cells := 0, slots := 0, locals := 176 } (xrtI Z Q) := E
  have hx : jext Z Z := jext_rfl
  show jJ G 3 0 [(0, .ref v0), (1, .int v1)] [] Z I L 0 0
  refine j_aload_n E dX11_whole_0 0 rfl ?_
  obtain ⟨b1, eb1, kb1⟩ := sh_o hZ kv0 (j := 2) (k := 8) rfl
  have h := h b1 eb1
  refine j_getr E 11 2 rfl rfl (by decide) (by decide) (iw iT_11) rfl rfl (tw W_438) kv0 eb1 dX11_whole_1 ?_
  refine j_iload_n E dX11_whole_4 1 rfl ?_
  refine j_callV E [.int v1] [] (c_X8_has (gL G) (gD G) (gY G) b1 v1 Z I L _ hZ kb1 h) (gwV W_447 W_250 W_251 W_248 W_247) rfl ⟨rfl, fy_X8_has⟩ ⟨by decide, by decide⟩ (c := 8) rfl (by decide) kb1 rfl rfl (Nat.le_of_ble_eq_true rfl) ⟨Nat.zero_le _, Nat.zero_le _⟩ dX11_whole_5 (fun v2 Z3 I4 L5 q6 => ?_)
  obtain ⟨rfl, r7, rfl, zr7, h⟩ := q6
  show jJ G 3 8 [(0, .ref v0), (1, .int v1)] [.int r7] Z I4 L5 0 0
  refine j_if_ne E 13 dX11_whole_8 (by decide) (fun c8 => ?_) (fun c8 => ?_)
  · have h := h.1 c8
    refine j_aload_n E dX11_whole_13 0 rfl ?_
    refine j_iconst E (v := -1) dX11_whole_14 (by decide) ?_
    refine j_aload_n E dX11_whole_15 0 rfl ?_
    obtain ⟨b9, eb9, kb9, lb9⟩ := sh_f hZ kv0 (j := 11) (k := 14) (m := 3) rfl
    have h := h b9 eb9
    refine j_getr E 11 11 rfl rfl (by decide) (by decide) (iw iT_11) rfl rfl (tw W_546) kv0 eb9 dX11_whole_16 ?_
    refine j_callV E [.int (-1 : Int32), .ref b9] [] (c_X11_sumUp (gL G) (gD G) (gY G) v0 (-1 : Int32) b9 Z I4 L5 _ hZ kv0 kb9 h) (gwV W_548 W_549 W_550 W_28 W_547) rfl ⟨rfl, fy_X11_sumUp⟩ ⟨by decide, by decide⟩ (c := 11) rfl (by decide) kv0 rfl rfl (Nat.le_of_ble_eq_true rfl) ⟨Nat.zero_le _, Nat.zero_le _⟩ dX11_whole_19 (fun v10 Z11 I12 L13 q14 => ?_)
    obtain ⟨yZ11, hZ11, rfl, h⟩ := q14
    have hZ := hZ11
    have hx : jext Z Z11 := jext_trans hx yZ11
    have k15 := (yZ11 _ _ kv0).1
    show jJ G 3 22 [(0, .ref v0), (1, .int v1)] [] Z11 I12 L13 0 0
    refine j_aload_n E dX11_whole_22 0 rfl ?_
    obtain ⟨b16, eb16, kb16⟩ := sh_o hZ k15 (j := 2) (k := 8) rfl
    have h := h b16 eb16
    refine j_getr E 11 2 rfl rfl (by decide) (by decide) (iw iT_11) rfl rfl (tw W_438) k15 eb16 dX11_whole_23 ?_
    obtain ⟨b17, eb17, kb17, lb17⟩ := sh_f hZ kb16 (j := 1) (k := 14) (m := 24) rfl
    have h := h b17 eb17
    refine j_getrN E 8 1 rfl rfl (by decide) (by decide) (iw iT_8) rfl rfl (nw_8_1_X11_151) kb16 eb17 dX11_whole_26 ?_
    refine j_iload_n E dX11_whole_29 1 rfl ?_
    obtain ⟨o18, h⟩ := h
    refine j_iald E kb17 (by rw [lb17]; exact o18) dX11_whole_30 ?_
    refine j_topi (fun x19 ex19 => ?_)
    have h := h x19 ex19
    refine j_istore_n E 2 [(2, .int x19), (0, .ref v0), (1, .int v1)] dX11_whole_31 rfl (by decide) rfl ?_
    refine j_aload_n E dX11_whole_32 1 rfl ?_
    obtain ⟨b20, eb20, kb20⟩ := sh_o hZ k15 (j := 2) (k := 8) rfl
    have h := h b20 eb20
    refine j_getr E 11 2 rfl rfl (by decide) (by decide) (iw iT_11) rfl rfl (tw W_438) k15 eb20 dX11_whole_33 ?_
    obtain ⟨b21, eb21, kb21, lb21⟩ := sh_f hZ kb20 (j := 1) (k := 14) (m := 24) rfl
    have h := h b21 eb21
    refine j_getrN E 8 1 rfl rfl (by decide) (by decide) (iw iT_8) rfl rfl (nw_8_1_X11_151) kb20 eb21 dX11_whole_36 ?_
    refine j_iload_n E dX11_whole_39 2 rfl ?_
    refine j_bipush E (v := 9) dX11_whole_40 (by decide) ?_
    obtain ⟨o22, h⟩ := h
    refine j_iast E kb21 (by rw [lb21]; exact o22) dX11_whole_42 ?_
    refine j_nmI (fun I23 eI23 => ?_)
    have h := h I23 eI23
    refine j_aload_n E dX11_whole_43 1 rfl ?_
    refine j_iconst E (v := -1) dX11_whole_44 (by decide) ?_
    refine j_aload_n E dX11_whole_45 1 rfl ?_
    obtain ⟨b24, eb24, kb24, lb24⟩ := sh_f hZ k15 (j := 12) (k := 14) (m := 3) rfl
    have h := h b24 eb24
    refine j_getr E 11 12 rfl rfl (by decide) (by decide) (iw iT_11) rfl rfl (tw W_551) k15 eb24 dX11_whole_46 ?_
    refine j_callV E [.int (-1 : Int32), .ref b24] [] (c_X11_sumUp (gL G) (gD G) (gY G) v0 (-1 : Int32) b24 Z11 I23 L13 _ hZ k15 kb24 h) (gwV W_548 W_549 W_550 W_28 W_547) rfl ⟨rfl, fy_X11_sumUp⟩ ⟨by decide, by decide⟩ (c := 11) rfl (by decide) k15 rfl rfl (Nat.le_of_ble_eq_true rfl) ⟨Nat.zero_le _, Nat.zero_le _⟩ dX11_whole_49 (fun v25 Z26 I27 L28 q29 => ?_)
    obtain ⟨yZ26, hZ26, rfl, h⟩ := q29
    have hZ := hZ26
    have hx : jext Z Z26 := jext_trans hx yZ26
    have k30 := (yZ26 _ _ k15).1
    show jJ G 3 52 [(2, .int x19), (0, .ref v0), (1, .int v1)] [] Z26 I27 L28 0 0
    refine j_aload_n E dX11_whole_52 1 rfl ?_
    obtain ⟨b31, eb31, kb31⟩ := sh_o hZ k30 (j := 2) (k := 8) rfl
    have h := h b31 eb31
    refine j_getr E 11 2 rfl rfl (by decide) (by decide) (iw iT_11) rfl rfl (tw W_438) k30 eb31 dX11_whole_53 ?_
    obtain ⟨b32, eb32, kb32, lb32⟩ := sh_f hZ kb31 (j := 1) (k := 14) (m := 24) rfl
    have h := h b32 eb32
    refine j_getrN E 8 1 rfl rfl (by decide) (by decide) (iw iT_8) rfl rfl (nw_8_1_X11_151) kb31 eb32 dX11_whole_56 ?_
    refine j_iload_n E dX11_whole_59 2 rfl ?_
    refine j_iload_n E dX11_whole_60 0 rfl ?_
    obtain ⟨o33, h⟩ := h
    refine j_iast E kb32 (by rw [lb32]; exact o33) dX11_whole_61 ?_
    refine j_nmI (fun I34 eI34 => ?_)
    have h := h I34 eI34
    refine j_aload_n E dX11_whole_62 1 rfl ?_
    refine j_callV E [] [] (c_X11_tellDifferences (gL G) (gD G) (gY G) v0 Z26 I34 L28 _ hZ k30 h) (gwV W_553 W_554 W_555 W_28 W_552) rfl ⟨rfl, fy_X11_tellDifferences⟩ ⟨by decide, by decide⟩ (c := 11) rfl (by decide) k30 rfl rfl (Nat.le_of_ble_eq_true rfl) ⟨Nat.zero_le _, Nat.zero_le _⟩ dX11_whole_63 (fun v35 Z36 I37 L38 q39 => ?_)
    obtain ⟨rfl, r40, rfl, h⟩ := q39
    show jJ G 3 66 [(2, .int x19), (0, .ref v0), (1, .int v1)] [.int r40] Z26 I37 L38 0 0
    exact j_ireturn E ⟨hx, hZ, _, rfl, h⟩ (Nat.zero_le _) (Nat.zero_le _) dX11_whole_66
  · have h := h.2 c8
    refine j_iconst E (v := -1) dX11_whole_11 (by decide) ?_
    exact j_ireturn E ⟨hx, hZ, _, rfl, h⟩ (Nat.zero_le _) (Nat.zero_le _) dX11_whole_12
set_option maxRecDepth 100000 in
def f_X11_mends (v0 : Nat) (v1 : Int32) (Z : jZ) (I : jI) (L : jL) (Q : Int32 → jI → jL → Prop) : Prop := (∀ b1 : Nat, jr Z v0 2 = some b1 → (f_X8_has b1 v1 Z I L (fun r7 I4 L5 => ((¬ r7 = 0 → (∀ b9 : Nat, jr Z v0 2 = some b9 → (∀ b10 : Nat, jr Z b9 1 = some b10 → (vp_in v1 24 ∧ (∀ b12 : Nat, jr Z v0 2 = some b12 → (∀ b13 : Nat, jr Z b12 0 = some b13 → (vp_in v1 24 ∧ (∀ x15 : Int32, x15 = (((9 : Int32) - (I4 b10 v1.toNatClampNeg)) * (I4 b13 v1.toNatClampNeg)) → (f_X11_lead v0 x15 v1 (-1 : Int32) Z I4 L5 (fun I18 L19 => (∀ b21 : Nat, jr Z v0 2 = some b21 → (∀ b22 : Nat, jr Z b21 1 = some b22 → (vp_in v1 24 ∧ (∀ I24 : jI, I24 = jpI I18 b22 v1.toNatClampNeg (9 : Int32) → Q x15 I24 L19)))))))))))))) ∧ (r7 = 0 → Q (-1 : Int32) I4 L5)))))
set_option maxHeartbeats 4000000 in
set_option maxRecDepth 100000 in
theorem c_X11_mends (l : Launch) (D : va_G) (cy : jC) (v0 : Nat) (v1 : Int32) (Z : jZ) (I : jI) (L : jL) (Q : Int32 → jI → jL → Prop) (hZ : SH Z) (kv0 : jk Z v0 11) (h : f_X11_mends v0 v1 Z I L Q) : jCt l yX11_mends w_X11_mends { frames := 4, cells := 0, slots := 0, locals := 89 } D cy [.ref v0, .int v1] Z I L (rtI Z Q) := by
  refine jCt_of (cc := cX11_mends) (maxL := 3) (ret := (some .int)) (by decide +kernel) rfl (Nat.le_of_ble_eq_true rfl) ?_
  intro G eD eY eL E
  subst eD; subst eY; subst eL
  have E : jE G cX11_mends RX11 w_X11_mends 3 (some .int) { frames := 4, cells := 0, slots := 0, locals := 89 } (rtI Z Q) := E
  show jJ G 3 0 [(0, .ref v0), (1, .int v1)] [] Z I L 0 0
  refine j_aload_n E dX11_mends_0 0 rfl ?_
  obtain ⟨b1, eb1, kb1⟩ := sh_o hZ kv0 (j := 2) (k := 8) rfl
  have h := h b1 eb1
  refine j_getr E 11 2 rfl rfl (by decide) (by decide) (iw iT_11) rfl rfl (tw W_438) kv0 eb1 dX11_mends_1 ?_
  refine j_iload_n E dX11_mends_4 1 rfl ?_
  refine j_callV E [.int v1] [] (c_X8_has (gL G) (gD G) (gY G) b1 v1 Z I L _ hZ kb1 h) (gwV W_447 W_250 W_251 W_248 W_247) rfl ⟨rfl, fy_X8_has⟩ ⟨by decide, by decide⟩ (c := 8) rfl (by decide) kb1 rfl rfl (Nat.le_of_ble_eq_true rfl) ⟨Nat.zero_le _, Nat.zero_le _⟩ dX11_mends_5 (fun v2 Z3 I4 L5 q6 => ?_)
  obtain ⟨rfl, r7, rfl, zr7, h⟩ := q6
  show jJ G 3 8 [(0, .ref v0), (1, .int v1)] [.int r7] Z I4 L5 0 0
  refine j_if_ne E 13 dX11_mends_8 (by decide) (fun c8 => ?_) (fun c8 => ?_)
  · have h := h.1 c8
    refine j_bipush E (v := 9) dX11_mends_13 (by decide) ?_
    refine j_aload_n E dX11_mends_15 0 rfl ?_
    obtain ⟨b9, eb9, kb9⟩ := sh_o hZ kv0 (j := 2) (k := 8) rfl
    have h := h b9 eb9
    refine j_getr E 11 2 rfl rfl (by decide) (by decide) (iw iT_11) rfl rfl (tw W_438) kv0 eb9 dX11_mends_16 ?_
    obtain ⟨b10, eb10, kb10, lb10⟩ := sh_f hZ kb9 (j := 1) (k := 14) (m := 24) rfl
    have h := h b10 eb10
    refine j_getrN E 8 1 rfl rfl (by decide) (by decide) (iw iT_8) rfl rfl (nw_8_1_X11_151) kb9 eb10 dX11_mends_19 ?_
    refine j_iload_n E dX11_mends_22 1 rfl ?_
    obtain ⟨o11, h⟩ := h
    refine j_iald E kb10 (by rw [lb10]; exact o11) dX11_mends_23 ?_
    refine j_isub E dX11_mends_24 ?_
    refine j_aload_n E dX11_mends_25 0 rfl ?_
    obtain ⟨b12, eb12, kb12⟩ := sh_o hZ kv0 (j := 2) (k := 8) rfl
    have h := h b12 eb12
    refine j_getr E 11 2 rfl rfl (by decide) (by decide) (iw iT_11) rfl rfl (tw W_438) kv0 eb12 dX11_mends_26 ?_
    obtain ⟨b13, eb13, kb13, lb13⟩ := sh_f hZ kb12 (j := 0) (k := 14) (m := 24) rfl
    have h := h b13 eb13
    refine j_getrN E 8 0 rfl rfl (by decide) (by decide) (iw iT_8) rfl rfl (nw_8_0_X11_148) kb12 eb13 dX11_mends_29 ?_
    refine j_iload_n E dX11_mends_32 1 rfl ?_
    obtain ⟨o14, h⟩ := h
    refine j_iald E kb13 (by rw [lb13]; exact o14) dX11_mends_33 ?_
    refine j_imul E dX11_mends_34 ?_
    refine j_topi (fun x15 ex15 => ?_)
    have h := h x15 ex15
    refine j_istore_n E 2 [(2, .int x15), (0, .ref v0), (1, .int v1)] dX11_mends_35 rfl (by decide) rfl ?_
    refine j_aload_n E dX11_mends_36 1 rfl ?_
    refine j_iload_n E dX11_mends_37 0 rfl ?_
    refine j_iload_n E dX11_mends_38 2 rfl ?_
    refine j_iconst E (v := -1) dX11_mends_39 (by decide) ?_
    refine j_callV E [.int x15, .int v1, .int (-1 : Int32)] [] (c_X11_lead (gL G) (gD G) (gY G) v0 x15 v1 (-1 : Int32) Z I4 L5 _ hZ kv0 h) (gwV W_501 W_502 W_503 W_28 W_500) rfl ⟨rfl, fy_X11_lead⟩ ⟨by decide, by decide⟩ (c := 11) rfl (by decide) kv0 rfl rfl (Nat.le_of_ble_eq_true rfl) ⟨Nat.zero_le _, Nat.zero_le _⟩ dX11_mends_40 (fun v16 Z17 I18 L19 q20 => ?_)
    obtain ⟨rfl, rfl, h⟩ := q20
    show jJ G 3 43 [(2, .int x15), (0, .ref v0), (1, .int v1)] [] Z I18 L19 0 0
    refine j_aload_n E dX11_mends_43 1 rfl ?_
    obtain ⟨b21, eb21, kb21⟩ := sh_o hZ kv0 (j := 2) (k := 8) rfl
    have h := h b21 eb21
    refine j_getr E 11 2 rfl rfl (by decide) (by decide) (iw iT_11) rfl rfl (tw W_438) kv0 eb21 dX11_mends_44 ?_
    obtain ⟨b22, eb22, kb22, lb22⟩ := sh_f hZ kb21 (j := 1) (k := 14) (m := 24) rfl
    have h := h b22 eb22
    refine j_getrN E 8 1 rfl rfl (by decide) (by decide) (iw iT_8) rfl rfl (nw_8_1_X11_151) kb21 eb22 dX11_mends_47 ?_
    refine j_iload_n E dX11_mends_50 2 rfl ?_
    refine j_bipush E (v := 9) dX11_mends_51 (by decide) ?_
    obtain ⟨o23, h⟩ := h
    refine j_iast E kb22 (by rw [lb22]; exact o23) dX11_mends_53 ?_
    refine j_nmI (fun I24 eI24 => ?_)
    have h := h I24 eI24
    refine j_iload_n E dX11_mends_54 0 rfl ?_
    exact j_ireturn E ⟨rfl, _, rfl, h⟩ (Nat.zero_le _) (Nat.zero_le _) dX11_mends_55
  · have h := h.2 c8
    refine j_iconst E (v := -1) dX11_mends_11 (by decide) ?_
    exact j_ireturn E ⟨rfl, _, rfl, h⟩ (Nat.zero_le _) (Nat.zero_le _) dX11_mends_12
set_option maxRecDepth 100000 in
def f_X11_shut (v0 : Nat) (v1 : Int32) (Z : jZ) (I : jI) (L : jL) (Q : Int32 → jZ → jI → jL → Prop) : Prop := (∀ b1 : Nat, jr Z v0 2 = some b1 → (f_X8_has b1 v1 Z I L (fun r7 I4 L5 => ((¬ r7 = 0 → (∀ b9 : Nat, jr Z v0 11 = some b9 → (f_X11_sumUp v0 (-1 : Int32) b9 Z I4 L5 (fun Z11 I12 L13 => (∀ b16 : Nat, jr Z11 v0 12 = some b16 → (f_X11_sumUp v0 v1 b16 Z11 I12 L13 (fun Z18 I19 L20 => (f_X11_tellDifferences v0 Z18 I19 L20 (fun r28 I25 L26 => Q r28 Z18 I25 L26))))))))) ∧ (r7 = 0 → Q (-1 : Int32) Z I4 L5)))))
set_option maxHeartbeats 4000000 in
set_option maxRecDepth 100000 in
theorem c_X11_shut (l : Launch) (D : va_G) (cy : jC) (v0 : Nat) (v1 : Int32) (Z : jZ) (I : jI) (L : jL) (Q : Int32 → jZ → jI → jL → Prop) (hZ : SH Z) (kv0 : jk Z v0 11) (h : f_X11_shut v0 v1 Z I L Q) : jCt l yX11_shut w_X11_shut { frames := 7, cells := 0, slots := 0, locals := 176 } D cy [.ref v0, .int v1] Z I L (xrtI Z Q) := by
  refine jCt_of (cc := cX11_shut) (maxL := 2) (ret := (some .int)) (by decide +kernel) rfl (Nat.le_of_ble_eq_true rfl) ?_
  intro G eD eY eL E
  subst eD; subst eY; subst eL
  have E : jE G cX11_shut RX11 w_X11_shut 2 (some .int) { frames := 7, cells := 0, slots := 0, locals := 176 } (xrtI Z Q) := E
  have hx : jext Z Z := jext_rfl
  show jJ G 2 0 [(0, .ref v0), (1, .int v1)] [] Z I L 0 0
  refine j_aload_n E dX11_shut_0 0 rfl ?_
  obtain ⟨b1, eb1, kb1⟩ := sh_o hZ kv0 (j := 2) (k := 8) rfl
  have h := h b1 eb1
  refine j_getr E 11 2 rfl rfl (by decide) (by decide) (iw iT_11) rfl rfl (tw W_438) kv0 eb1 dX11_shut_1 ?_
  refine j_iload_n E dX11_shut_4 1 rfl ?_
  refine j_callV E [.int v1] [] (c_X8_has (gL G) (gD G) (gY G) b1 v1 Z I L _ hZ kb1 h) (gwV W_447 W_250 W_251 W_248 W_247) rfl ⟨rfl, fy_X8_has⟩ ⟨by decide, by decide⟩ (c := 8) rfl (by decide) kb1 rfl rfl (Nat.le_of_ble_eq_true rfl) ⟨Nat.zero_le _, Nat.zero_le _⟩ dX11_shut_5 (fun v2 Z3 I4 L5 q6 => ?_)
  obtain ⟨rfl, r7, rfl, zr7, h⟩ := q6
  show jJ G 2 8 [(0, .ref v0), (1, .int v1)] [.int r7] Z I4 L5 0 0
  refine j_if_ne E 13 dX11_shut_8 (by decide) (fun c8 => ?_) (fun c8 => ?_)
  · have h := h.1 c8
    refine j_aload_n E dX11_shut_13 0 rfl ?_
    refine j_iconst E (v := -1) dX11_shut_14 (by decide) ?_
    refine j_aload_n E dX11_shut_15 0 rfl ?_
    obtain ⟨b9, eb9, kb9, lb9⟩ := sh_f hZ kv0 (j := 11) (k := 14) (m := 3) rfl
    have h := h b9 eb9
    refine j_getr E 11 11 rfl rfl (by decide) (by decide) (iw iT_11) rfl rfl (tw W_546) kv0 eb9 dX11_shut_16 ?_
    refine j_callV E [.int (-1 : Int32), .ref b9] [] (c_X11_sumUp (gL G) (gD G) (gY G) v0 (-1 : Int32) b9 Z I4 L5 _ hZ kv0 kb9 h) (gwV W_548 W_549 W_550 W_28 W_547) rfl ⟨rfl, fy_X11_sumUp⟩ ⟨by decide, by decide⟩ (c := 11) rfl (by decide) kv0 rfl rfl (Nat.le_of_ble_eq_true rfl) ⟨Nat.zero_le _, Nat.zero_le _⟩ dX11_shut_19 (fun v10 Z11 I12 L13 q14 => ?_)
    obtain ⟨yZ11, hZ11, rfl, h⟩ := q14
    have hZ := hZ11
    have hx : jext Z Z11 := jext_trans hx yZ11
    have k15 := (yZ11 _ _ kv0).1
    show jJ G 2 22 [(0, .ref v0), (1, .int v1)] [] Z11 I12 L13 0 0
    refine j_aload_n E dX11_shut_22 0 rfl ?_
    refine j_iload_n E dX11_shut_23 1 rfl ?_
    refine j_aload_n E dX11_shut_24 0 rfl ?_
    obtain ⟨b16, eb16, kb16, lb16⟩ := sh_f hZ k15 (j := 12) (k := 14) (m := 3) rfl
    have h := h b16 eb16
    refine j_getr E 11 12 rfl rfl (by decide) (by decide) (iw iT_11) rfl rfl (tw W_551) k15 eb16 dX11_shut_25 ?_
    refine j_callV E [.int v1, .ref b16] [] (c_X11_sumUp (gL G) (gD G) (gY G) v0 v1 b16 Z11 I12 L13 _ hZ k15 kb16 h) (gwV W_548 W_549 W_550 W_28 W_547) rfl ⟨rfl, fy_X11_sumUp⟩ ⟨by decide, by decide⟩ (c := 11) rfl (by decide) k15 rfl rfl (Nat.le_of_ble_eq_true rfl) ⟨Nat.zero_le _, Nat.zero_le _⟩ dX11_shut_28 (fun v17 Z18 I19 L20 q21 => ?_)
    obtain ⟨yZ18, hZ18, rfl, h⟩ := q21
    have hZ := hZ18
    have hx : jext Z Z18 := jext_trans hx yZ18
    have k22 := (yZ18 _ _ k15).1
    show jJ G 2 31 [(0, .ref v0), (1, .int v1)] [] Z18 I19 L20 0 0
    refine j_aload_n E dX11_shut_31 0 rfl ?_
    refine j_callV E [] [] (c_X11_tellDifferences (gL G) (gD G) (gY G) v0 Z18 I19 L20 _ hZ k22 h) (gwV W_553 W_554 W_555 W_28 W_552) rfl ⟨rfl, fy_X11_tellDifferences⟩ ⟨by decide, by decide⟩ (c := 11) rfl (by decide) k22 rfl rfl (Nat.le_of_ble_eq_true rfl) ⟨Nat.zero_le _, Nat.zero_le _⟩ dX11_shut_32 (fun v23 Z24 I25 L26 q27 => ?_)
    obtain ⟨rfl, r28, rfl, h⟩ := q27
    show jJ G 2 35 [(0, .ref v0), (1, .int v1)] [.int r28] Z18 I25 L26 0 0
    exact j_ireturn E ⟨hx, hZ, _, rfl, h⟩ (Nat.zero_le _) (Nat.zero_le _) dX11_shut_35
  · have h := h.2 c8
    refine j_iconst E (v := -1) dX11_shut_11 (by decide) ?_
    exact j_ireturn E ⟨hx, hZ, _, rfl, h⟩ (Nat.zero_le _) (Nat.zero_le _) dX11_shut_12
set_option maxRecDepth 100000 in
def f_X11_weigh_b52 (K18 : Nat → Int32 → Int32 → jI → jL → Prop) (Z : jZ) (Q : jI → jL → Prop) (v0 : Nat) (v1 : Int32) (v2 : Int32) (I : jI) (L : jL) : Prop := (∀ x1 : Int32, x1 = v2 + 1 → K18 v0 v1 x1 I L)
set_option maxHeartbeats 4000000 in
set_option maxRecDepth 100000 in
theorem m_X11_weigh_b52 {G : jG} {Z : jZ} {Q : jI → jL → Prop} (E : jE G cX11_weigh RX11 w_X11_weigh 4 none { frames := 5, cells := 0, slots := 0, locals := 137 } (rtV Z Q)) (hZ : SH Z) (K18 : Nat → Int32 → Int32 → jI → jL → Prop) (hK18 : ∀ (v0 : Nat) (v1 : Int32) (v2 : Int32) (I : jI) (L : jL), jk Z v0 11 → K18 v0 v1 v2 I L → jJ G 4 18 [(0, .ref v0), (1, .int v1), (2, .int v2)] [] Z I L 0 0) (v0 : Nat) (v1 : Int32) (v2 : Int32) (I : jI) (L : jL) (kv0 : jk Z v0 11) (h : f_X11_weigh_b52 K18 Z Q v0 v1 v2 I L) : jJ G 4 52 [(0, .ref v0), (1, .int v1), (2, .int v2)] [] Z I L 0 0 := by
  obtain ⟨x1, ex1⟩ : ∃ y : Int32, y = v2 + 1 := ⟨_, rfl⟩
  have h := h x1 ex1
  refine j_iinc E x1 [(2, .int x1), (0, .ref v0), (1, .int v1)] dX11_weigh_52 2 rfl (by rw [ex1]; rfl) (by decide) rfl ?_
  refine j_goto E 18 dX11_weigh_55 (by decide) ?_
  refine j_sub [1, 2, 0] rfl ?_
  exact hK18 v0 v1 x1 I L kv0 h
set_option maxRecDepth 100000 in
def f_X11_weigh_L18  (Z : jZ) (Q : jI → jL → Prop) : Nat → Nat → Int32 → Int32 → jI → jL → Prop
  | 0 => fun _ _ _ _ _ => False
  | n + 1 => fun v0 v1 v2 I L => (((I v0 4) ≤ v2 → Q I L) ∧ (¬ ((I v0 4) ≤ v2) → (f_X11_find v0 v2 Z I L (fun r8 I5 L6 => ((r8 = none → f_X11_weigh_b52 (f_X11_weigh_L18 Z Q n) Z Q v0 v1 v2 I5 L6) ∧ (∀ b9 : Nat, r8 = some b9 → (∀ b11 : Nat, jr Z b9 8 = some b11 → (∀ b12 : Nat, jr Z v0 13 = some b12 → (∀ b13 : Nat, jr Z v0 14 = some b13 → (f_X6_addOffers b11 v1 b12 b13 Z I5 L6 (fun I16 L17 => f_X11_weigh_b52 (f_X11_weigh_L18 Z Q n) Z Q v0 v1 v2 I16 L17)))))))))))
set_option maxHeartbeats 4000000 in
set_option maxRecDepth 100000 in
theorem m_X11_weigh_L18 {G : jG} {Z : jZ} {Q : jI → jL → Prop} (E : jE G cX11_weigh RX11 w_X11_weigh 4 none { frames := 5, cells := 0, slots := 0, locals := 137 } (rtV Z Q)) (hZ : SH Z)  : ∀ (n : Nat) (v0 : Nat) (v1 : Int32) (v2 : Int32) (I : jI) (L : jL), jk Z v0 11 → f_X11_weigh_L18  Z Q n v0 v1 v2 I L → jJ G 4 18 [(0, .ref v0), (1, .int v1), (2, .int v2)] [] Z I L 0 0 := by
  intro n
  induction n with
  | zero => intro v0 v1 v2 I L _ h; exact h.elim
  | succ n ih =>
    intro v0 v1 v2 I L kv0 h
    have h : (((I v0 4) ≤ v2 → Q I L) ∧ (¬ ((I v0 4) ≤ v2) → (f_X11_find v0 v2 Z I L (fun r8 I5 L6 => ((r8 = none → f_X11_weigh_b52 (f_X11_weigh_L18 Z Q n) Z Q v0 v1 v2 I5 L6) ∧ (∀ b9 : Nat, r8 = some b9 → (∀ b11 : Nat, jr Z b9 8 = some b11 → (∀ b12 : Nat, jr Z v0 13 = some b12 → (∀ b13 : Nat, jr Z v0 14 = some b13 → (f_X6_addOffers b11 v1 b12 b13 Z I5 L6 (fun I16 L17 => f_X11_weigh_b52 (f_X11_weigh_L18 Z Q n) Z Q v0 v1 v2 I16 L17))))))))))) := h
    obtain ⟨K18, eK18⟩ : ∃ K : Nat → Int32 → Int32 → jI → jL → Prop, K = f_X11_weigh_L18  Z Q n := ⟨_, rfl⟩
    have hK18 := ih
    clear eK18 K18
    generalize f_X11_weigh_L18  Z Q n = K18 at hK18 h
    refine j_iload_n E dX11_weigh_18 2 rfl ?_
    refine j_aload_n E dX11_weigh_19 0 rfl ?_
    refine j_geti E 11 4 rfl rfl (by decide) (by decide) (iw iT_11) rfl rfl (tw W_415) kv0 dX11_weigh_20 ?_
    refine j_icmp_ge E 58 dX11_weigh_23 (by decide) (fun c2 => ?_) (fun c2 => ?_)
    · have h := h.1 c2
      exact j_return E ⟨rfl, rfl, h⟩ (Nat.zero_le _) (Nat.zero_le _) dX11_weigh_58
    · have h := h.2 c2
      refine j_aload_n E dX11_weigh_26 0 rfl ?_
      refine j_iload_n E dX11_weigh_27 2 rfl ?_
      refine j_callV E [.int v2] [] (c_X11_find (gL G) (gD G) (gY G) v0 v2 Z I L _ hZ kv0 h) (gwV W_421 W_422 W_423 W_28 W_420) rfl ⟨rfl, fy_X11_find⟩ ⟨by decide, by decide⟩ (c := 11) rfl (by decide) kv0 rfl rfl (Nat.le_of_ble_eq_true rfl) ⟨Nat.zero_le _, Nat.zero_le _⟩ dX11_weigh_28 (fun v3 Z4 I5 L6 q7 => ?_)
      obtain ⟨rfl, r8, rfl, zr8, h⟩ := q7
      show jJ G 4 31 [(0, .ref v0), (1, .int v1), (2, .int v2)] (va_rf r8 :: []) Z I5 L6 0 0
      rcases c10 : r8 with _ | b9
      · have h := h.1 c10
        refine j_rfN rfl ?_
        refine j_astore_nN E 3 [(3, .null), (0, .ref v0), (1, .int v1), (2, .int v2)] dX11_weigh_31 rfl (by decide) rfl ?_
        refine j_aload_nN E dX11_weigh_32 0 rfl ?_
        refine j_ifnullN E 52 dX11_weigh_33 (by decide) ?_
        refine j_sub [1, 2, 3] rfl ?_
        exact m_X11_weigh_b52 E hZ K18 hK18 v0 v1 v2 I5 L6 kv0 h
      · have h := h.2 b9 c10
        have kb9 := zr8 b9 c10
        refine j_rfS rfl ?_
        refine j_astore_n E 3 [(3, .ref b9), (0, .ref v0), (1, .int v1), (2, .int v2)] dX11_weigh_31 rfl (by decide) rfl ?_
        refine j_aload_n E dX11_weigh_32 0 rfl ?_
        refine j_ifnull E dX11_weigh_33 ?_
        refine j_aload_n E dX11_weigh_36 0 rfl ?_
        obtain ⟨b11, eb11, kb11⟩ := sh_o hZ kb9 (j := 8) (k := 6) rfl
        have h := h b11 eb11
        refine j_getrN E 5 8 rfl rfl (by decide) (by decide) (iw iT_5) rfl rfl (nw_5_8_X11_263) kb9 eb11 dX11_weigh_37 ?_
        refine j_iload_n E dX11_weigh_40 2 rfl ?_
        refine j_aload_n E dX11_weigh_41 1 rfl ?_
        obtain ⟨b12, eb12, kb12, lb12⟩ := sh_f hZ kv0 (j := 13) (k := 14) (m := 21) rfl
        have h := h b12 eb12
        refine j_getr E 11 13 rfl rfl (by decide) (by decide) (iw iT_11) rfl rfl (tw W_556) kv0 eb12 dX11_weigh_42 ?_
        refine j_aload_n E dX11_weigh_45 1 rfl ?_
        obtain ⟨b13, eb13, kb13, lb13⟩ := sh_f hZ kv0 (j := 14) (k := 14) (m := 21) rfl
        have h := h b13 eb13
        refine j_getr E 11 14 rfl rfl (by decide) (by decide) (iw iT_11) rfl rfl (tw W_557) kv0 eb13 dX11_weigh_46 ?_
        refine j_callV E [.int v1, .ref b12, .ref b13] [] (c_X6_addOffers (gL G) (gD G) (gY G) b11 v1 b12 b13 Z I5 L6 _ hZ kb11 kb12 kb13 h) (gwV W_559 W_560 W_561 W_21 W_558) rfl ⟨rfl, fy_X6_addOffers⟩ ⟨by decide, by decide⟩ (c := 6) rfl (by decide) kb11 rfl rfl (Nat.le_of_ble_eq_true rfl) ⟨Nat.zero_le _, Nat.zero_le _⟩ dX11_weigh_49 (fun v14 Z15 I16 L17 q18 => ?_)
        obtain ⟨rfl, rfl, h⟩ := q18
        show jJ G 4 52 [(3, .ref b9), (0, .ref v0), (1, .int v1), (2, .int v2)] [] Z I16 L17 0 0
        refine j_sub [1, 2, 3] rfl ?_
        exact m_X11_weigh_b52 E hZ K18 hK18 v0 v1 v2 I16 L17 kv0 h
set_option maxRecDepth 100000 in
def f_X11_weigh (v0 : Nat) (v1 : Int32) (Z : jZ) (I : jI) (L : jL) (Q : jI → jL → Prop) : Prop := (∀ b19 : Nat, jr Z v0 13 = some b19 → (f_J7_fill_53178 b19 (0 : Int32) Z I L (fun I22 L23 => (∀ b25 : Nat, jr Z v0 14 = some b25 → (f_J7_fill_53178 b25 (0 : Int32) Z I22 L23 (fun I28 L29 => (∃ m18 : Nat, f_X11_weigh_L18  Z Q m18 v0 v1 (0 : Int32) I28 L29)))))))
set_option maxHeartbeats 4000000 in
set_option maxRecDepth 100000 in
theorem c_X11_weigh (l : Launch) (D : va_G) (cy : jC) (v0 : Nat) (v1 : Int32) (Z : jZ) (I : jI) (L : jL) (Q : jI → jL → Prop) (hZ : SH Z) (kv0 : jk Z v0 11) (h : f_X11_weigh v0 v1 Z I L Q) : jCt l yX11_weigh w_X11_weigh { frames := 5, cells := 0, slots := 0, locals := 137 } D cy [.ref v0, .int v1] Z I L (rtV Z Q) := by
  refine jCt_of (cc := cX11_weigh) (maxL := 4) (ret := none) (by decide +kernel) rfl (Nat.le_of_ble_eq_true rfl) ?_
  intro G eD eY eL E
  subst eD; subst eY; subst eL
  have E : jE G cX11_weigh RX11 w_X11_weigh 4 none { frames := 5, cells := 0, slots := 0, locals := 137 } (rtV Z Q) := E
  show jJ G 4 0 [(0, .ref v0), (1, .int v1)] [] Z I L 0 0
  refine j_aload_n E dX11_weigh_0 0 rfl ?_
  obtain ⟨b19, eb19, kb19, lb19⟩ := sh_f hZ kv0 (j := 13) (k := 14) (m := 21) rfl
  have h := h b19 eb19
  refine j_getr E 11 13 rfl rfl (by decide) (by decide) (iw iT_11) rfl rfl (tw W_556) kv0 eb19 dX11_weigh_1 ?_
  refine j_iconst E (v := 0) dX11_weigh_4 (by decide) ?_
  refine j_callS E [.ref b19, .int (0 : Int32)] [] (c_J7_fill_53178 (gL G) (gD G) (gY G) b19 (0 : Int32) Z I L _ hZ kb19 h) (gwS W_419 W_10 W_8 W_7) rfl fy_J7_fill_53178 ⟨by decide, by decide⟩ rfl rfl (Nat.le_of_ble_eq_true rfl) ⟨Nat.zero_le _, Nat.zero_le _⟩ dX11_weigh_5 (fun v20 Z21 I22 L23 q24 => ?_)
  obtain ⟨rfl, rfl, h⟩ := q24
  show jJ G 4 8 [(0, .ref v0), (1, .int v1)] [] Z I22 L23 0 0
  refine j_aload_n E dX11_weigh_8 0 rfl ?_
  obtain ⟨b25, eb25, kb25, lb25⟩ := sh_f hZ kv0 (j := 14) (k := 14) (m := 21) rfl
  have h := h b25 eb25
  refine j_getr E 11 14 rfl rfl (by decide) (by decide) (iw iT_11) rfl rfl (tw W_557) kv0 eb25 dX11_weigh_9 ?_
  refine j_iconst E (v := 0) dX11_weigh_12 (by decide) ?_
  refine j_callS E [.ref b25, .int (0 : Int32)] [] (c_J7_fill_53178 (gL G) (gD G) (gY G) b25 (0 : Int32) Z I22 L23 _ hZ kb25 h) (gwS W_419 W_10 W_8 W_7) rfl fy_J7_fill_53178 ⟨by decide, by decide⟩ rfl rfl (Nat.le_of_ble_eq_true rfl) ⟨Nat.zero_le _, Nat.zero_le _⟩ dX11_weigh_13 (fun v26 Z27 I28 L29 q30 => ?_)
  obtain ⟨rfl, rfl, h⟩ := q30
  show jJ G 4 16 [(0, .ref v0), (1, .int v1)] [] Z I28 L29 0 0
  refine j_iconst E (v := 0) dX11_weigh_16 (by decide) ?_
  refine j_istore_n E 2 [(2, .int (0 : Int32)), (0, .ref v0), (1, .int v1)] dX11_weigh_17 rfl (by decide) rfl ?_
  obtain ⟨n31, h⟩ := h
  refine j_sub [1, 2, 0] rfl ?_
  exact m_X11_weigh_L18 E hZ  n31 v0 v1 (0 : Int32) I28 L29 kv0 h
set_option maxRecDepth 100000 in
def f_X11_weighAlone_b51 (K2 : Nat → Int32 → Int32 → jZ → jI → jL → Prop) (Q : jZ → jI → jL → Prop) (v0 : Nat) (v1 : Int32) (v2 : Int32) (Z : jZ) (I : jI) (L : jL) : Prop := (∀ x1 : Int32, x1 = v2 + 1 → K2 v0 v1 x1 Z I L)
set_option maxHeartbeats 4000000 in
set_option maxRecDepth 100000 in
theorem m_X11_weighAlone_b51 {G : jG} {Z0 : jZ} {Q : jZ → jI → jL → Prop} (E : jE G cX11_weighAlone RX11 w_X11_weighAlone 4 none { frames := 6, cells := 0, slots := 0, locals := 160 } (xrtV Z0 Q)) (K2 : Nat → Int32 → Int32 → jZ → jI → jL → Prop) (hK2 : ∀ (v0 : Nat) (v1 : Int32) (v2 : Int32) (Z : jZ) (I : jI) (L : jL), SH Z → jext Z0 Z → jk Z v0 11 → K2 v0 v1 v2 Z I L → jJ G 4 2 [(0, .ref v0), (1, .int v1), (2, .int v2)] [] Z I L 0 0) (v0 : Nat) (v1 : Int32) (v2 : Int32) (Z : jZ) (I : jI) (L : jL) (hZ : SH Z) (hx : jext Z0 Z) (kv0 : jk Z v0 11) (h : f_X11_weighAlone_b51 K2 Q v0 v1 v2 Z I L) : jJ G 4 51 [(0, .ref v0), (1, .int v1), (2, .int v2)] [] Z I L 0 0 := by
  obtain ⟨x1, ex1⟩ : ∃ y : Int32, y = v2 + 1 := ⟨_, rfl⟩
  have h := h x1 ex1
  refine j_iinc E x1 [(2, .int x1), (0, .ref v0), (1, .int v1)] dX11_weighAlone_51 2 rfl (by rw [ex1]; rfl) (by decide) rfl ?_
  refine j_goto E 2 dX11_weighAlone_54 (by decide) ?_
  refine j_sub [1, 2, 0] rfl ?_
  exact hK2 v0 v1 x1 Z I L hZ hx kv0 h
set_option maxRecDepth 100000 in
def f_X11_weighAlone_L2  (Q : jZ → jI → jL → Prop) : Nat → Nat → Int32 → Int32 → jZ → jI → jL → Prop
  | 0 => fun _ _ _ _ _ _ => False
  | n + 1 => fun v0 v1 v2 Z I L => (((I v0 4) ≤ v2 → (f_X11_weigh v0 v1 Z I L (fun I5 L6 => Q Z I5 L6))) ∧ (¬ ((I v0 4) ≤ v2) → (f_X11_find v0 v2 Z I L (fun r13 I10 L11 => ((r13 = none → f_X11_weighAlone_b51 (f_X11_weighAlone_L2 Q n) Q v0 v1 v2 Z I10 L11) ∧ (∀ b14 : Nat, r13 = some b14 → (∀ b16 : Nat, jr Z b14 8 = some b16 → (f_X6_lay b16 (I10 b14 3) (I10 b14 4) (-1 : Int32) Z I10 L11 (fun I19 L20 => (∀ b22 : Nat, jr Z b14 8 = some b22 → (f_X6_survey b22 Z I19 L20 (fun Z24 I25 L26 => (∀ b30 : Nat, jr Z24 b14 8 = some b30 → (f_X6_raiseTo b30 v1 Z24 I25 L26 (fun Z32 I33 L34 => f_X11_weighAlone_b51 (f_X11_weighAlone_L2 Q n) Q v0 v1 v2 Z32 I33 L34)))))))))))))))
set_option maxHeartbeats 4000000 in
set_option maxRecDepth 100000 in
theorem m_X11_weighAlone_L2 {G : jG} {Z0 : jZ} {Q : jZ → jI → jL → Prop} (E : jE G cX11_weighAlone RX11 w_X11_weighAlone 4 none { frames := 6, cells := 0, slots := 0, locals := 160 } (xrtV Z0 Q))  : ∀ (n : Nat) (v0 : Nat) (v1 : Int32) (v2 : Int32) (Z : jZ) (I : jI) (L : jL), SH Z → jext Z0 Z → jk Z v0 11 → f_X11_weighAlone_L2  Q n v0 v1 v2 Z I L → jJ G 4 2 [(0, .ref v0), (1, .int v1), (2, .int v2)] [] Z I L 0 0 := by
  intro n
  induction n with
  | zero => intro v0 v1 v2 Z I L _ _ _ h; exact h.elim
  | succ n ih =>
    intro v0 v1 v2 Z I L hZ hx kv0 h
    have h : (((I v0 4) ≤ v2 → (f_X11_weigh v0 v1 Z I L (fun I5 L6 => Q Z I5 L6))) ∧ (¬ ((I v0 4) ≤ v2) → (f_X11_find v0 v2 Z I L (fun r13 I10 L11 => ((r13 = none → f_X11_weighAlone_b51 (f_X11_weighAlone_L2 Q n) Q v0 v1 v2 Z I10 L11) ∧ (∀ b14 : Nat, r13 = some b14 → (∀ b16 : Nat, jr Z b14 8 = some b16 → (f_X6_lay b16 (I10 b14 3) (I10 b14 4) (-1 : Int32) Z I10 L11 (fun I19 L20 => (∀ b22 : Nat, jr Z b14 8 = some b22 → (f_X6_survey b22 Z I19 L20 (fun Z24 I25 L26 => (∀ b30 : Nat, jr Z24 b14 8 = some b30 → (f_X6_raiseTo b30 v1 Z24 I25 L26 (fun Z32 I33 L34 => f_X11_weighAlone_b51 (f_X11_weighAlone_L2 Q n) Q v0 v1 v2 Z32 I33 L34))))))))))))))) := h
    obtain ⟨K2, eK2⟩ : ∃ K : Nat → Int32 → Int32 → jZ → jI → jL → Prop, K = f_X11_weighAlone_L2  Q n := ⟨_, rfl⟩
    have hK2 := ih
    clear eK2 K2
    generalize f_X11_weighAlone_L2  Q n = K2 at hK2 h
    refine j_iload_n E dX11_weighAlone_2 2 rfl ?_
    refine j_aload_n E dX11_weighAlone_3 0 rfl ?_
    refine j_geti E 11 4 rfl rfl (by decide) (by decide) (iw iT_11) rfl rfl (tw W_415) kv0 dX11_weighAlone_4 ?_
    refine j_icmp_ge E 57 dX11_weighAlone_7 (by decide) (fun c2 => ?_) (fun c2 => ?_)
    · have h := h.1 c2
      refine j_aload_n E dX11_weighAlone_57 0 rfl ?_
      refine j_iload_n E dX11_weighAlone_58 1 rfl ?_
      refine j_callV E [.int v1] [] (c_X11_weigh (gL G) (gD G) (gY G) v0 v1 Z I L _ hZ kv0 h) (gwV W_563 W_564 W_565 W_28 W_562) rfl ⟨rfl, fy_X11_weigh⟩ ⟨by decide, by decide⟩ (c := 11) rfl (by decide) kv0 rfl rfl (Nat.le_of_ble_eq_true rfl) ⟨Nat.zero_le _, Nat.zero_le _⟩ dX11_weighAlone_59 (fun v3 Z4 I5 L6 q7 => ?_)
      obtain ⟨rfl, rfl, h⟩ := q7
      show jJ G 4 62 [(0, .ref v0), (1, .int v1), (2, .int v2)] [] Z I5 L6 0 0
      exact j_return E ⟨hx, hZ, rfl, h⟩ (Nat.zero_le _) (Nat.zero_le _) dX11_weighAlone_62
    · have h := h.2 c2
      refine j_aload_n E dX11_weighAlone_10 0 rfl ?_
      refine j_iload_n E dX11_weighAlone_11 2 rfl ?_
      refine j_callV E [.int v2] [] (c_X11_find (gL G) (gD G) (gY G) v0 v2 Z I L _ hZ kv0 h) (gwV W_421 W_422 W_423 W_28 W_420) rfl ⟨rfl, fy_X11_find⟩ ⟨by decide, by decide⟩ (c := 11) rfl (by decide) kv0 rfl rfl (Nat.le_of_ble_eq_true rfl) ⟨Nat.zero_le _, Nat.zero_le _⟩ dX11_weighAlone_12 (fun v8 Z9 I10 L11 q12 => ?_)
      obtain ⟨rfl, r13, rfl, zr13, h⟩ := q12
      show jJ G 4 15 [(0, .ref v0), (1, .int v1), (2, .int v2)] (va_rf r13 :: []) Z I10 L11 0 0
      rcases c15 : r13 with _ | b14
      · have h := h.1 c15
        refine j_rfN rfl ?_
        refine j_astore_nN E 3 [(3, .null), (0, .ref v0), (1, .int v1), (2, .int v2)] dX11_weighAlone_15 rfl (by decide) rfl ?_
        refine j_aload_nN E dX11_weighAlone_16 0 rfl ?_
        refine j_ifnullN E 51 dX11_weighAlone_17 (by decide) ?_
        refine j_sub [1, 2, 3] rfl ?_
        exact m_X11_weighAlone_b51 E K2 hK2 v0 v1 v2 Z I10 L11 hZ hx kv0 h
      · have h := h.2 b14 c15
        have kb14 := zr13 b14 c15
        refine j_rfS rfl ?_
        refine j_astore_n E 3 [(3, .ref b14), (0, .ref v0), (1, .int v1), (2, .int v2)] dX11_weighAlone_15 rfl (by decide) rfl ?_
        refine j_aload_n E dX11_weighAlone_16 0 rfl ?_
        refine j_ifnull E dX11_weighAlone_17 ?_
        refine j_aload_n E dX11_weighAlone_20 0 rfl ?_
        obtain ⟨b16, eb16, kb16⟩ := sh_o hZ kb14 (j := 8) (k := 6) rfl
        have h := h b16 eb16
        refine j_getrN E 5 8 rfl rfl (by decide) (by decide) (iw iT_5) rfl rfl (nw_5_8_X11_263) kb14 eb16 dX11_weighAlone_21 ?_
        refine j_aload_n E dX11_weighAlone_24 0 rfl ?_
        refine j_getiN E 5 3 rfl rfl (by decide) (by decide) (iw iT_5) rfl rfl (nw_5_3_X11_213) kb14 dX11_weighAlone_25 ?_
        refine j_aload_n E dX11_weighAlone_28 0 rfl ?_
        refine j_getiN E 5 4 rfl rfl (by decide) (by decide) (iw iT_5) rfl rfl (nw_5_4_X11_196) kb14 dX11_weighAlone_29 ?_
        refine j_iconst E (v := -1) dX11_weighAlone_32 (by decide) ?_
        refine j_callV E [.int (I10 b14 3), .int (I10 b14 4), .int (-1 : Int32)] [] (c_X6_lay (gL G) (gD G) (gY G) b16 (I10 b14 3) (I10 b14 4) (-1 : Int32) Z I10 L11 _ hZ kb16 h) (gwV W_516 W_517 W_518 W_21 W_515) rfl ⟨rfl, fy_X6_lay⟩ ⟨by decide, by decide⟩ (c := 6) rfl (by decide) kb16 rfl rfl (Nat.le_of_ble_eq_true rfl) ⟨Nat.zero_le _, Nat.zero_le _⟩ dX11_weighAlone_33 (fun v17 Z18 I19 L20 q21 => ?_)
        obtain ⟨rfl, rfl, h⟩ := q21
        show jJ G 4 36 [(3, .ref b14), (0, .ref v0), (1, .int v1), (2, .int v2)] [] Z I19 L20 0 0
        refine j_aload_n E dX11_weighAlone_36 0 rfl ?_
        obtain ⟨b22, eb22, kb22⟩ := sh_o hZ kb14 (j := 8) (k := 6) rfl
        have h := h b22 eb22
        refine j_getrN E 5 8 rfl rfl (by decide) (by decide) (iw iT_5) rfl rfl (nw_5_8_X11_263) kb14 eb22 dX11_weighAlone_37 ?_
        refine j_callV E [] [] (c_X6_survey (gL G) (gD G) (gY G) b22 Z I19 L20 _ hZ kb22 h) (gwV W_567 W_568 W_569 W_21 W_566) rfl ⟨rfl, fy_X6_survey⟩ ⟨by decide, by decide⟩ (c := 6) rfl (by decide) kb22 rfl rfl (Nat.le_of_ble_eq_true rfl) ⟨Nat.zero_le _, Nat.zero_le _⟩ dX11_weighAlone_40 (fun v23 Z24 I25 L26 q27 => ?_)
        obtain ⟨yZ24, hZ24, rfl, h⟩ := q27
        have hZ := hZ24
        have hx : jext Z0 Z24 := jext_trans hx yZ24
        have k28 := (yZ24 _ _ kv0).1
        have k29 := (yZ24 _ _ kb14).1
        show jJ G 4 43 [(3, .ref b14), (0, .ref v0), (1, .int v1), (2, .int v2)] [] Z24 I25 L26 0 0
        refine j_aload_n E dX11_weighAlone_43 0 rfl ?_
        obtain ⟨b30, eb30, kb30⟩ := sh_o hZ k29 (j := 8) (k := 6) rfl
        have h := h b30 eb30
        refine j_getrN E 5 8 rfl rfl (by decide) (by decide) (iw iT_5) rfl rfl (nw_5_8_X11_263) k29 eb30 dX11_weighAlone_44 ?_
        refine j_iload_n E dX11_weighAlone_47 2 rfl ?_
        refine j_callV E [.int v1] [] (c_X6_raiseTo (gL G) (gD G) (gY G) b30 v1 Z24 I25 L26 _ hZ kb30 h) (gwV W_570 W_319 W_320 W_21 W_317) rfl ⟨rfl, fy_X6_raiseTo⟩ ⟨by decide, by decide⟩ (c := 6) rfl (by decide) kb30 rfl rfl (Nat.le_of_ble_eq_true rfl) ⟨Nat.zero_le _, Nat.zero_le _⟩ dX11_weighAlone_48 (fun v31 Z32 I33 L34 q35 => ?_)
        obtain ⟨yZ32, hZ32, rfl, h⟩ := q35
        have hZ := hZ32
        have hx : jext Z0 Z32 := jext_trans hx yZ32
        have k36 := (yZ32 _ _ k28).1
        have k37 := (yZ32 _ _ k29).1
        show jJ G 4 51 [(3, .ref b14), (0, .ref v0), (1, .int v1), (2, .int v2)] [] Z32 I33 L34 0 0
        refine j_sub [1, 2, 3] rfl ?_
        exact m_X11_weighAlone_b51 E K2 hK2 v0 v1 v2 Z32 I33 L34 hZ hx k36 h
set_option maxRecDepth 100000 in
def f_X11_weighAlone (v0 : Nat) (v1 : Int32) (Z : jZ) (I : jI) (L : jL) (Q : jZ → jI → jL → Prop) : Prop := (∃ m2 : Nat, f_X11_weighAlone_L2  Q m2 v0 v1 (0 : Int32) Z I L)
set_option maxHeartbeats 4000000 in
set_option maxRecDepth 100000 in
theorem c_X11_weighAlone (l : Launch) (D : va_G) (cy : jC) (v0 : Nat) (v1 : Int32) (Z : jZ) (I : jI) (L : jL) (Q : jZ → jI → jL → Prop) (hZ : SH Z) (kv0 : jk Z v0 11) (h : f_X11_weighAlone v0 v1 Z I L Q) : jCt l yX11_weighAlone w_X11_weighAlone { frames := 6, cells := 0, slots := 0, locals := 160 } D cy [.ref v0, .int v1] Z I L (xrtV Z Q) := by
  refine jCt_of (cc := cX11_weighAlone) (maxL := 4) (ret := none) (by decide +kernel) rfl (Nat.le_of_ble_eq_true rfl) ?_
  intro G eD eY eL E
  subst eD; subst eY; subst eL
  have E : jE G cX11_weighAlone RX11 w_X11_weighAlone 4 none { frames := 6, cells := 0, slots := 0, locals := 160 } (xrtV Z Q) := E
  have hx : jext Z Z := jext_rfl
  show jJ G 4 0 [(0, .ref v0), (1, .int v1)] [] Z I L 0 0
  refine j_iconst E (v := 0) dX11_weighAlone_0 (by decide) ?_
  refine j_istore_n E 2 [(2, .int (0 : Int32)), (0, .ref v0), (1, .int v1)] dX11_weighAlone_1 rfl (by decide) rfl ?_
  obtain ⟨n38, h⟩ := h
  refine j_sub [1, 2, 0] rfl ?_
  exact m_X11_weighAlone_L2 E  n38 v0 v1 (0 : Int32) Z I L hZ hx kv0 h
set_option maxRecDepth 100000 in
def f_X11_toll_b48 (K22 : Nat → Int32 → Int32 → jZ → jI → jL → Prop) (Q : Int32 → jZ → jI → jL → Prop) (v0 : Nat) (v3 : Int32) (s0 : Int32) (Z : jZ) (I : jI) (L : jL) : Prop := (∀ x1 : Int32, x1 = v3 + 1 → K22 v0 s0 x1 Z I L)
set_option maxHeartbeats 4000000 in
set_option maxRecDepth 100000 in
theorem m_X11_toll_b48 {G : jG} {Z0 : jZ} {Q : Int32 → jZ → jI → jL → Prop} (E : jE G cX11_toll RX11 w_X11_toll 4 (some .int) { frames := 7, cells := 0, slots := 0, locals := 183 } (xrtI Z0 Q)) (K22 : Nat → Int32 → Int32 → jZ → jI → jL → Prop) (hK22 : ∀ (v0 : Nat) (v2 : Int32) (v3 : Int32) (Z : jZ) (I : jI) (L : jL), SH Z → jext Z0 Z → jk Z v0 11 → K22 v0 v2 v3 Z I L → jJ G 4 22 [(0, .ref v0), (2, .int v2), (3, .int v3)] [] Z I L 0 0) (v0 : Nat) (v3 : Int32) (s0 : Int32) (Z : jZ) (I : jI) (L : jL) (hZ : SH Z) (hx : jext Z0 Z) (kv0 : jk Z v0 11) (h : f_X11_toll_b48 K22 Q v0 v3 s0 Z I L) : jJ G 4 48 [(0, .ref v0), (3, .int v3)] [.int s0] Z I L 0 0 := by
  refine j_istore_n E 2 [(2, .int s0), (0, .ref v0), (3, .int v3)] dX11_toll_48 rfl (by decide) rfl ?_
  obtain ⟨x1, ex1⟩ : ∃ y : Int32, y = v3 + 1 := ⟨_, rfl⟩
  have h := h x1 ex1
  refine j_iinc E x1 [(3, .int x1), (2, .int s0), (0, .ref v0)] dX11_toll_49 2 rfl (by rw [ex1]; rfl) (by decide) rfl ?_
  refine j_goto E 22 dX11_toll_52 (by decide) ?_
  refine j_sub [2, 1, 0] rfl ?_
  exact hK22 v0 s0 x1 Z I L hZ hx kv0 h
set_option maxRecDepth 100000 in
def f_X11_toll_L22  (Q : Int32 → jZ → jI → jL → Prop) : Nat → Nat → Int32 → Int32 → jZ → jI → jL → Prop
  | 0 => fun _ _ _ _ _ _ => False
  | n + 1 => fun v0 v2 v3 Z I L => (((20 : Int32) < v3 → (∀ b3 : Nat, jr Z v0 14 = some b3 → (f_X11_tellOne v0 ((I b3 (0 : Int32).toNatClampNeg).toInt64) Z I L (fun I6 L7 => Q v2 Z I6 L7)))) ∧ (¬ ((20 : Int32) < v3) → (∀ b9 : Nat, jr Z v0 14 = some b9 → (vp_in v3 21 ∧ (∀ b11 : Nat, jr Z v0 14 = some b11 → ((¬ (I b9 v3.toNatClampNeg) = (I b11 (0 : Int32).toNatClampNeg) → f_X11_toll_b48 (f_X11_toll_L22 Q n) Q v0 v3 v2 Z I L) ∧ ((I b9 v3.toNatClampNeg) = (I b11 (0 : Int32).toNatClampNeg) → f_X11_toll_b48 (f_X11_toll_L22 Q n) Q v0 v3 v3 Z I L)))))))
set_option maxHeartbeats 4000000 in
set_option maxRecDepth 100000 in
theorem m_X11_toll_L22 {G : jG} {Z0 : jZ} {Q : Int32 → jZ → jI → jL → Prop} (E : jE G cX11_toll RX11 w_X11_toll 4 (some .int) { frames := 7, cells := 0, slots := 0, locals := 183 } (xrtI Z0 Q))  : ∀ (n : Nat) (v0 : Nat) (v2 : Int32) (v3 : Int32) (Z : jZ) (I : jI) (L : jL), SH Z → jext Z0 Z → jk Z v0 11 → f_X11_toll_L22  Q n v0 v2 v3 Z I L → jJ G 4 22 [(0, .ref v0), (2, .int v2), (3, .int v3)] [] Z I L 0 0 := by
  intro n
  induction n with
  | zero => intro v0 v2 v3 Z I L _ _ _ h; exact h.elim
  | succ n ih =>
    intro v0 v2 v3 Z I L hZ hx kv0 h
    have h : (((20 : Int32) < v3 → (∀ b3 : Nat, jr Z v0 14 = some b3 → (f_X11_tellOne v0 ((I b3 (0 : Int32).toNatClampNeg).toInt64) Z I L (fun I6 L7 => Q v2 Z I6 L7)))) ∧ (¬ ((20 : Int32) < v3) → (∀ b9 : Nat, jr Z v0 14 = some b9 → (vp_in v3 21 ∧ (∀ b11 : Nat, jr Z v0 14 = some b11 → ((¬ (I b9 v3.toNatClampNeg) = (I b11 (0 : Int32).toNatClampNeg) → f_X11_toll_b48 (f_X11_toll_L22 Q n) Q v0 v3 v2 Z I L) ∧ ((I b9 v3.toNatClampNeg) = (I b11 (0 : Int32).toNatClampNeg) → f_X11_toll_b48 (f_X11_toll_L22 Q n) Q v0 v3 v3 Z I L))))))) := h
    obtain ⟨K22, eK22⟩ : ∃ K : Nat → Int32 → Int32 → jZ → jI → jL → Prop, K = f_X11_toll_L22  Q n := ⟨_, rfl⟩
    have hK22 := ih
    clear eK22 K22
    generalize f_X11_toll_L22  Q n = K22 at hK22 h
    refine j_iload_n E dX11_toll_22 2 rfl ?_
    refine j_bipush E (v := 20) dX11_toll_23 (by decide) ?_
    refine j_icmp_gt E 55 dX11_toll_25 (by decide) (fun c2 => ?_) (fun c2 => ?_)
    · have h := h.1 c2
      refine j_aload_n E dX11_toll_55 0 rfl ?_
      refine j_aload_n E dX11_toll_56 0 rfl ?_
      obtain ⟨b3, eb3, kb3, lb3⟩ := sh_f hZ kv0 (j := 14) (k := 14) (m := 21) rfl
      have h := h b3 eb3
      refine j_getr E 11 14 rfl rfl (by decide) (by decide) (iw iT_11) rfl rfl (tw W_557) kv0 eb3 dX11_toll_57 ?_
      refine j_iconst E (v := 0) dX11_toll_60 (by decide) ?_
      refine j_iald E kb3 (by rw [lb3]; exact vp_in_lit (by decide)) dX11_toll_61 ?_
      refine j_i2l E dX11_toll_62 ?_
      refine j_callV E [.long ((I b3 (0 : Int32).toNatClampNeg).toInt64)] [] (c_X11_tellOne (gL G) (gD G) (gY G) v0 ((I b3 (0 : Int32).toNatClampNeg).toInt64) Z I L _ hZ kv0 h) (gwV W_476 W_477 W_478 W_28 W_475) rfl ⟨rfl, fy_X11_tellOne⟩ ⟨by decide, by decide⟩ (c := 11) rfl (by decide) kv0 rfl rfl (Nat.le_of_ble_eq_true rfl) ⟨Nat.zero_le _, Nat.zero_le _⟩ dX11_toll_63 (fun v4 Z5 I6 L7 q8 => ?_)
      obtain ⟨rfl, rfl, h⟩ := q8
      show jJ G 4 66 [(0, .ref v0), (2, .int v2), (3, .int v3)] [] Z I6 L7 0 0
      refine j_iload_n E dX11_toll_66 1 rfl ?_
      exact j_ireturn E ⟨hx, hZ, _, rfl, h⟩ (Nat.zero_le _) (Nat.zero_le _) dX11_toll_67
    · have h := h.2 c2
      refine j_aload_n E dX11_toll_28 0 rfl ?_
      obtain ⟨b9, eb9, kb9, lb9⟩ := sh_f hZ kv0 (j := 14) (k := 14) (m := 21) rfl
      have h := h b9 eb9
      refine j_getr E 11 14 rfl rfl (by decide) (by decide) (iw iT_11) rfl rfl (tw W_557) kv0 eb9 dX11_toll_29 ?_
      refine j_iload_n E dX11_toll_32 2 rfl ?_
      obtain ⟨o10, h⟩ := h
      refine j_iald E kb9 (by rw [lb9]; exact o10) dX11_toll_33 ?_
      refine j_aload_n E dX11_toll_34 0 rfl ?_
      obtain ⟨b11, eb11, kb11, lb11⟩ := sh_f hZ kv0 (j := 14) (k := 14) (m := 21) rfl
      have h := h b11 eb11
      refine j_getr E 11 14 rfl rfl (by decide) (by decide) (iw iT_11) rfl rfl (tw W_557) kv0 eb11 dX11_toll_35 ?_
      refine j_iconst E (v := 0) dX11_toll_38 (by decide) ?_
      refine j_iald E kb11 (by rw [lb11]; exact vp_in_lit (by decide)) dX11_toll_39 ?_
      refine j_icmp_ne E 47 dX11_toll_40 (by decide) (fun c12 => ?_) (fun c12 => ?_)
      · have h := h.1 c12
        refine j_iload_n E dX11_toll_47 1 rfl ?_
        refine j_sub [0, 2] rfl ?_
        exact m_X11_toll_b48 E K22 hK22 v0 v3 v2 Z I L hZ hx kv0 h
      · have h := h.2 c12
        refine j_iload_n E dX11_toll_43 2 rfl ?_
        refine j_goto E 48 dX11_toll_44 (by decide) ?_
        refine j_sub [0, 2] rfl ?_
        exact m_X11_toll_b48 E K22 hK22 v0 v3 v3 Z I L hZ hx kv0 h
set_option maxRecDepth 100000 in
def f_X11_toll (v0 : Nat) (v1 : Int32) (Z : jZ) (I : jI) (L : jL) (Q : Int32 → jZ → jI → jL → Prop) : Prop := (∀ b13 : Nat, jr Z v0 2 = some b13 → (f_X8_has b13 v1 Z I L (fun r19 I16 L17 => ((¬ r19 = 0 → (f_X11_weighAlone v0 v1 Z I16 L17 (fun Z22 I23 L24 => (∃ m22 : Nat, f_X11_toll_L22  Q m22 v0 (0 : Int32) (1 : Int32) Z22 I23 L24)))) ∧ (r19 = 0 → Q (-1 : Int32) Z I16 L17)))))
set_option maxHeartbeats 4000000 in
set_option maxRecDepth 100000 in
theorem c_X11_toll (l : Launch) (D : va_G) (cy : jC) (v0 : Nat) (v1 : Int32) (Z : jZ) (I : jI) (L : jL) (Q : Int32 → jZ → jI → jL → Prop) (hZ : SH Z) (kv0 : jk Z v0 11) (h : f_X11_toll v0 v1 Z I L Q) : jCt l yX11_toll w_X11_toll { frames := 7, cells := 0, slots := 0, locals := 183 } D cy [.ref v0, .int v1] Z I L (xrtI Z Q) := by
  refine jCt_of (cc := cX11_toll) (maxL := 4) (ret := (some .int)) (by decide +kernel) rfl (Nat.le_of_ble_eq_true rfl) ?_
  intro G eD eY eL E
  subst eD; subst eY; subst eL
  have E : jE G cX11_toll RX11 w_X11_toll 4 (some .int) { frames := 7, cells := 0, slots := 0, locals := 183 } (xrtI Z Q) := E
  have hx : jext Z Z := jext_rfl
  show jJ G 4 0 [(0, .ref v0), (1, .int v1)] [] Z I L 0 0
  refine j_aload_n E dX11_toll_0 0 rfl ?_
  obtain ⟨b13, eb13, kb13⟩ := sh_o hZ kv0 (j := 2) (k := 8) rfl
  have h := h b13 eb13
  refine j_getr E 11 2 rfl rfl (by decide) (by decide) (iw iT_11) rfl rfl (tw W_438) kv0 eb13 dX11_toll_1 ?_
  refine j_iload_n E dX11_toll_4 1 rfl ?_
  refine j_callV E [.int v1] [] (c_X8_has (gL G) (gD G) (gY G) b13 v1 Z I L _ hZ kb13 h) (gwV W_447 W_250 W_251 W_248 W_247) rfl ⟨rfl, fy_X8_has⟩ ⟨by decide, by decide⟩ (c := 8) rfl (by decide) kb13 rfl rfl (Nat.le_of_ble_eq_true rfl) ⟨Nat.zero_le _, Nat.zero_le _⟩ dX11_toll_5 (fun v14 Z15 I16 L17 q18 => ?_)
  obtain ⟨rfl, r19, rfl, zr19, h⟩ := q18
  show jJ G 4 8 [(0, .ref v0), (1, .int v1)] [.int r19] Z I16 L17 0 0
  refine j_if_ne E 13 dX11_toll_8 (by decide) (fun c20 => ?_) (fun c20 => ?_)
  · have h := h.1 c20
    refine j_aload_n E dX11_toll_13 0 rfl ?_
    refine j_iload_n E dX11_toll_14 1 rfl ?_
    refine j_callV E [.int v1] [] (c_X11_weighAlone (gL G) (gD G) (gY G) v0 v1 Z I16 L17 _ hZ kv0 h) (gwV W_572 W_573 W_574 W_28 W_571) rfl ⟨rfl, fy_X11_weighAlone⟩ ⟨by decide, by decide⟩ (c := 11) rfl (by decide) kv0 rfl rfl (Nat.le_of_ble_eq_true rfl) ⟨Nat.zero_le _, Nat.zero_le _⟩ dX11_toll_15 (fun v21 Z22 I23 L24 q25 => ?_)
    obtain ⟨yZ22, hZ22, rfl, h⟩ := q25
    have hZ := hZ22
    have hx : jext Z Z22 := jext_trans hx yZ22
    have k26 := (yZ22 _ _ kv0).1
    show jJ G 4 18 [(0, .ref v0), (1, .int v1)] [] Z22 I23 L24 0 0
    refine j_iconst E (v := 0) dX11_toll_18 (by decide) ?_
    refine j_istore_n E 2 [(2, .int (0 : Int32)), (0, .ref v0), (1, .int v1)] dX11_toll_19 rfl (by decide) rfl ?_
    refine j_iconst E (v := 1) dX11_toll_20 (by decide) ?_
    refine j_istore_n E 3 [(3, .int (1 : Int32)), (2, .int (0 : Int32)), (0, .ref v0), (1, .int v1)] dX11_toll_21 rfl (by decide) rfl ?_
    obtain ⟨n27, h⟩ := h
    refine j_sub [2, 1, 0] rfl ?_
    exact m_X11_toll_L22 E  n27 v0 (0 : Int32) (1 : Int32) Z22 I23 L24 hZ hx k26 h
  · have h := h.2 c20
    refine j_iconst E (v := -1) dX11_toll_11 (by decide) ?_
    exact j_ireturn E ⟨hx, hZ, _, rfl, h⟩ (Nat.zero_le _) (Nat.zero_le _) dX11_toll_12
set_option maxRecDepth 100000 in
def f_X11_peace_b175 (K19 : Nat → Int32 → Int32 → Int32 → Int32 → jZ → jI → jL → Prop) (K32 : Nat → Int32 → Int32 → Int32 → Int32 → Int32 → jZ → jI → jL → Prop) (Q : Int32 → jZ → jI → jL → Prop) (v0 : Nat) (v1 : Int32) (v2 : Int32) (v3 : Int32) (v4 : Int32) (v5 : Int32) (Z : jZ) (I : jI) (L : jL) : Prop := (∀ x1 : Int32, x1 = v5 + 1 → K32 v0 v1 v2 v3 v4 x1 Z I L)
set_option maxHeartbeats 4000000 in
set_option maxRecDepth 100000 in
theorem m_X11_peace_b175 {G : jG} {Z0 : jZ} {Q : Int32 → jZ → jI → jL → Prop} (E : jE G cX11_peace RX11 w_X11_peace 6 (some .int) { frames := 7, cells := 0, slots := 0, locals := 176 } (xrtI Z0 Q)) (K19 : Nat → Int32 → Int32 → Int32 → Int32 → jZ → jI → jL → Prop) (hK19 : ∀ (v0 : Nat) (v1 : Int32) (v2 : Int32) (v3 : Int32) (v4 : Int32) (Z : jZ) (I : jI) (L : jL), SH Z → jext Z0 Z → jk Z v0 11 → K19 v0 v1 v2 v3 v4 Z I L → jJ G 6 19 [(0, .ref v0), (1, .int v1), (2, .int v2), (3, .int v3), (4, .int v4)] [] Z I L 0 0) (K32 : Nat → Int32 → Int32 → Int32 → Int32 → Int32 → jZ → jI → jL → Prop) (hK32 : ∀ (v0 : Nat) (v1 : Int32) (v2 : Int32) (v3 : Int32) (v4 : Int32) (v5 : Int32) (Z : jZ) (I : jI) (L : jL), SH Z → jext Z0 Z → jk Z v0 11 → K32 v0 v1 v2 v3 v4 v5 Z I L → jJ G 6 32 [(0, .ref v0), (1, .int v1), (2, .int v2), (3, .int v3), (4, .int v4), (5, .int v5)] [] Z I L 0 0) (v0 : Nat) (v1 : Int32) (v2 : Int32) (v3 : Int32) (v4 : Int32) (v5 : Int32) (Z : jZ) (I : jI) (L : jL) (hZ : SH Z) (hx : jext Z0 Z) (kv0 : jk Z v0 11) (h : f_X11_peace_b175 K19 K32 Q v0 v1 v2 v3 v4 v5 Z I L) : jJ G 6 175 [(0, .ref v0), (1, .int v1), (2, .int v2), (3, .int v3), (4, .int v4), (5, .int v5)] [] Z I L 0 0 := by
  obtain ⟨x1, ex1⟩ : ∃ y : Int32, y = v5 + 1 := ⟨_, rfl⟩
  have h := h x1 ex1
  refine j_iinc E x1 [(5, .int x1), (0, .ref v0), (1, .int v1), (2, .int v2), (3, .int v3), (4, .int v4)] dX11_peace_175 5 rfl (by rw [ex1]; rfl) (by decide) rfl ?_
  refine j_goto E 32 dX11_peace_178 (by decide) ?_
  refine j_sub [1, 2, 3, 4, 5, 0] rfl ?_
  exact hK32 v0 v1 v2 v3 v4 x1 Z I L hZ hx kv0 h
set_option maxRecDepth 100000 in
def f_X11_peace_b152 (K19 : Nat → Int32 → Int32 → Int32 → Int32 → jZ → jI → jL → Prop) (K32 : Nat → Int32 → Int32 → Int32 → Int32 → Int32 → jZ → jI → jL → Prop) (Q : Int32 → jZ → jI → jL → Prop) (v0 : Nat) (v4 : Int32) (v5 : Int32) (Z : jZ) (I : jI) (L : jL) : Prop := (∀ x2 : Int32, x2 = ((v4 * (10 : Int32)) + v5) → (∀ b3 : Nat, jr Z v0 12 = some b3 → (∀ x4 : Int32, x4 = (I b3 (1 : Int32).toNatClampNeg) → (∀ b5 : Nat, jr Z v0 12 = some b5 → (∀ x6 : Int32, x6 = (I b5 (0 : Int32).toNatClampNeg) → f_X11_peace_b175 K19 K32 Q v0 x2 x4 x6 v4 v5 Z I L)))))
set_option maxHeartbeats 4000000 in
set_option maxRecDepth 100000 in
theorem m_X11_peace_b152 {G : jG} {Z0 : jZ} {Q : Int32 → jZ → jI → jL → Prop} (E : jE G cX11_peace RX11 w_X11_peace 6 (some .int) { frames := 7, cells := 0, slots := 0, locals := 176 } (xrtI Z0 Q)) (K19 : Nat → Int32 → Int32 → Int32 → Int32 → jZ → jI → jL → Prop) (hK19 : ∀ (v0 : Nat) (v1 : Int32) (v2 : Int32) (v3 : Int32) (v4 : Int32) (Z : jZ) (I : jI) (L : jL), SH Z → jext Z0 Z → jk Z v0 11 → K19 v0 v1 v2 v3 v4 Z I L → jJ G 6 19 [(0, .ref v0), (1, .int v1), (2, .int v2), (3, .int v3), (4, .int v4)] [] Z I L 0 0) (K32 : Nat → Int32 → Int32 → Int32 → Int32 → Int32 → jZ → jI → jL → Prop) (hK32 : ∀ (v0 : Nat) (v1 : Int32) (v2 : Int32) (v3 : Int32) (v4 : Int32) (v5 : Int32) (Z : jZ) (I : jI) (L : jL), SH Z → jext Z0 Z → jk Z v0 11 → K32 v0 v1 v2 v3 v4 v5 Z I L → jJ G 6 32 [(0, .ref v0), (1, .int v1), (2, .int v2), (3, .int v3), (4, .int v4), (5, .int v5)] [] Z I L 0 0) (v0 : Nat) (v4 : Int32) (v5 : Int32) (Z : jZ) (I : jI) (L : jL) (hZ : SH Z) (hx : jext Z0 Z) (kv0 : jk Z v0 11) (h : f_X11_peace_b152 K19 K32 Q v0 v4 v5 Z I L) : jJ G 6 152 [(0, .ref v0), (4, .int v4), (5, .int v5)] [] Z I L 0 0 := by
  refine j_iload E dX11_peace_152 1 rfl ?_
  refine j_bipush E (v := 10) dX11_peace_154 (by decide) ?_
  refine j_imul E dX11_peace_156 ?_
  refine j_iload E dX11_peace_157 2 rfl ?_
  refine j_iadd E dX11_peace_159 ?_
  refine j_topi (fun x2 ex2 => ?_)
  have h := h x2 ex2
  refine j_istore_n E 1 [(1, .int x2), (0, .ref v0), (4, .int v4), (5, .int v5)] dX11_peace_160 rfl (by decide) rfl ?_
  refine j_aload_n E dX11_peace_161 1 rfl ?_
  obtain ⟨b3, eb3, kb3, lb3⟩ := sh_f hZ kv0 (j := 12) (k := 14) (m := 3) rfl
  have h := h b3 eb3
  refine j_getr E 11 12 rfl rfl (by decide) (by decide) (iw iT_11) rfl rfl (tw W_551) kv0 eb3 dX11_peace_162 ?_
  refine j_iconst E (v := 1) dX11_peace_165 (by decide) ?_
  refine j_iald E kb3 (by rw [lb3]; exact vp_in_lit (by decide)) dX11_peace_166 ?_
  refine j_topi (fun x4 ex4 => ?_)
  have h := h x4 ex4
  refine j_istore_n E 2 [(2, .int x4), (1, .int x2), (0, .ref v0), (4, .int v4), (5, .int v5)] dX11_peace_167 rfl (by decide) rfl ?_
  refine j_aload_n E dX11_peace_168 2 rfl ?_
  obtain ⟨b5, eb5, kb5, lb5⟩ := sh_f hZ kv0 (j := 12) (k := 14) (m := 3) rfl
  have h := h b5 eb5
  refine j_getr E 11 12 rfl rfl (by decide) (by decide) (iw iT_11) rfl rfl (tw W_551) kv0 eb5 dX11_peace_169 ?_
  refine j_iconst E (v := 0) dX11_peace_172 (by decide) ?_
  refine j_iald E kb5 (by rw [lb5]; exact vp_in_lit (by decide)) dX11_peace_173 ?_
  refine j_topi (fun x6 ex6 => ?_)
  have h := h x6 ex6
  refine j_istore_n E 3 [(3, .int x6), (2, .int x4), (1, .int x2), (0, .ref v0), (4, .int v4), (5, .int v5)] dX11_peace_174 rfl (by decide) rfl ?_
  refine j_sub [3, 2, 1, 0, 4, 5] rfl ?_
  exact m_X11_peace_b175 E K19 hK19 K32 hK32 v0 x2 x4 x6 v4 v5 Z I L hZ hx kv0 h
set_option maxRecDepth 100000 in
def f_X11_peace_b121 (K19 : Nat → Int32 → Int32 → Int32 → Int32 → jZ → jI → jL → Prop) (K32 : Nat → Int32 → Int32 → Int32 → Int32 → Int32 → jZ → jI → jL → Prop) (Q : Int32 → jZ → jI → jL → Prop) (v0 : Nat) (v1 : Int32) (v2 : Int32) (v3 : Int32) (v4 : Int32) (v5 : Int32) (Z : jZ) (I : jI) (L : jL) : Prop := (∀ b7 : Nat, jr Z v0 12 = some b7 → (∀ b8 : Nat, jr Z v0 11 = some b8 → (((I b7 (0 : Int32).toNatClampNeg) < (I b8 (0 : Int32).toNatClampNeg) → f_X11_peace_b175 K19 K32 Q v0 v1 v2 v3 v4 v5 Z I L) ∧ (¬ ((I b7 (0 : Int32).toNatClampNeg) < (I b8 (0 : Int32).toNatClampNeg)) → ((v1 = (-2 : Int32) → f_X11_peace_b152 K19 K32 Q v0 v4 v5 Z I L) ∧ (¬ (v1 = (-2 : Int32)) → (∀ b11 : Nat, jr Z v0 12 = some b11 → ((v2 ≤ (I b11 (1 : Int32).toNatClampNeg) → f_X11_peace_b175 K19 K32 Q v0 v1 v2 v3 v4 v5 Z I L) ∧ (¬ (v2 ≤ (I b11 (1 : Int32).toNatClampNeg)) → f_X11_peace_b152 K19 K32 Q v0 v4 v5 Z I L)))))))))
set_option maxHeartbeats 4000000 in
set_option maxRecDepth 100000 in
theorem m_X11_peace_b121 {G : jG} {Z0 : jZ} {Q : Int32 → jZ → jI → jL → Prop} (E : jE G cX11_peace RX11 w_X11_peace 6 (some .int) { frames := 7, cells := 0, slots := 0, locals := 176 } (xrtI Z0 Q)) (K19 : Nat → Int32 → Int32 → Int32 → Int32 → jZ → jI → jL → Prop) (hK19 : ∀ (v0 : Nat) (v1 : Int32) (v2 : Int32) (v3 : Int32) (v4 : Int32) (Z : jZ) (I : jI) (L : jL), SH Z → jext Z0 Z → jk Z v0 11 → K19 v0 v1 v2 v3 v4 Z I L → jJ G 6 19 [(0, .ref v0), (1, .int v1), (2, .int v2), (3, .int v3), (4, .int v4)] [] Z I L 0 0) (K32 : Nat → Int32 → Int32 → Int32 → Int32 → Int32 → jZ → jI → jL → Prop) (hK32 : ∀ (v0 : Nat) (v1 : Int32) (v2 : Int32) (v3 : Int32) (v4 : Int32) (v5 : Int32) (Z : jZ) (I : jI) (L : jL), SH Z → jext Z0 Z → jk Z v0 11 → K32 v0 v1 v2 v3 v4 v5 Z I L → jJ G 6 32 [(0, .ref v0), (1, .int v1), (2, .int v2), (3, .int v3), (4, .int v4), (5, .int v5)] [] Z I L 0 0) (v0 : Nat) (v1 : Int32) (v2 : Int32) (v3 : Int32) (v4 : Int32) (v5 : Int32) (Z : jZ) (I : jI) (L : jL) (hZ : SH Z) (hx : jext Z0 Z) (kv0 : jk Z v0 11) (h : f_X11_peace_b121 K19 K32 Q v0 v1 v2 v3 v4 v5 Z I L) : jJ G 6 121 [(0, .ref v0), (1, .int v1), (2, .int v2), (3, .int v3), (4, .int v4), (5, .int v5)] [] Z I L 0 0 := by
  refine j_aload_n E dX11_peace_121 0 rfl ?_
  obtain ⟨b7, eb7, kb7, lb7⟩ := sh_f hZ kv0 (j := 12) (k := 14) (m := 3) rfl
  have h := h b7 eb7
  refine j_getr E 11 12 rfl rfl (by decide) (by decide) (iw iT_11) rfl rfl (tw W_551) kv0 eb7 dX11_peace_122 ?_
  refine j_iconst E (v := 0) dX11_peace_125 (by decide) ?_
  refine j_iald E kb7 (by rw [lb7]; exact vp_in_lit (by decide)) dX11_peace_126 ?_
  refine j_aload_n E dX11_peace_127 0 rfl ?_
  obtain ⟨b8, eb8, kb8, lb8⟩ := sh_f hZ kv0 (j := 11) (k := 14) (m := 3) rfl
  have h := h b8 eb8
  refine j_getr E 11 11 rfl rfl (by decide) (by decide) (iw iT_11) rfl rfl (tw W_546) kv0 eb8 dX11_peace_128 ?_
  refine j_iconst E (v := 0) dX11_peace_131 (by decide) ?_
  refine j_iald E kb8 (by rw [lb8]; exact vp_in_lit (by decide)) dX11_peace_132 ?_
  refine j_icmp_lt E 175 dX11_peace_133 (by decide) (fun c9 => ?_) (fun c9 => ?_)
  · have h := h.1 c9
    refine j_sub [0, 1, 2, 3, 4, 5] rfl ?_
    exact m_X11_peace_b175 E K19 hK19 K32 hK32 v0 v1 v2 v3 v4 v5 Z I L hZ hx kv0 h
  · have h := h.2 c9
    refine j_iload_n E dX11_peace_136 1 rfl ?_
    refine j_bipush E (v := -2) dX11_peace_137 (by decide) ?_
    refine j_icmp_eq E 152 dX11_peace_139 (by decide) (fun c10 => ?_) (fun c10 => ?_)
    · have h := h.1 c10
      refine j_sub [0, 4, 5] rfl ?_
      exact m_X11_peace_b152 E K19 hK19 K32 hK32 v0 v4 v5 Z I L hZ hx kv0 h
    · have h := h.2 c10
      refine j_aload_n E dX11_peace_142 0 rfl ?_
      obtain ⟨b11, eb11, kb11, lb11⟩ := sh_f hZ kv0 (j := 12) (k := 14) (m := 3) rfl
      have h := h b11 eb11
      refine j_getr E 11 12 rfl rfl (by decide) (by decide) (iw iT_11) rfl rfl (tw W_551) kv0 eb11 dX11_peace_143 ?_
      refine j_iconst E (v := 1) dX11_peace_146 (by decide) ?_
      refine j_iald E kb11 (by rw [lb11]; exact vp_in_lit (by decide)) dX11_peace_147 ?_
      refine j_iload_n E dX11_peace_148 2 rfl ?_
      refine j_icmp_ge E 175 dX11_peace_149 (by decide) (fun c12 => ?_) (fun c12 => ?_)
      · have h := h.1 c12
        refine j_sub [0, 1, 2, 3, 4, 5] rfl ?_
        exact m_X11_peace_b175 E K19 hK19 K32 hK32 v0 v1 v2 v3 v4 v5 Z I L hZ hx kv0 h
      · have h := h.2 c12
        refine j_sub [0, 4, 5] rfl ?_
        exact m_X11_peace_b152 E K19 hK19 K32 hK32 v0 v4 v5 Z I L hZ hx kv0 h
set_option maxRecDepth 100000 in
def f_X11_peace_L32 (K19 : Nat → Int32 → Int32 → Int32 → Int32 → jZ → jI → jL → Prop) (Q : Int32 → jZ → jI → jL → Prop) : Nat → Nat → Int32 → Int32 → Int32 → Int32 → Int32 → jZ → jI → jL → Prop
  | 0 => fun _ _ _ _ _ _ _ _ _ => False
  | n + 1 => fun v0 v1 v2 v3 v4 v5 Z I L => (((8 : Int32) ≤ v5 → (∀ x14 : Int32, x14 = v4 + 1 → K19 v0 v1 v2 v3 x14 Z I L)) ∧ (¬ ((8 : Int32) ≤ v5) → (∀ b15 : Nat, jr Z v0 2 = some b15 → (f_X8_inFeud b15 v4 v5 Z I L (fun r21 I18 L19 => ((¬ r21 = 0 → (∀ b23 : Nat, jr Z v0 11 = some b23 → (∀ b24 : Nat, jr Z v0 12 = some b24 → (∀ b25 : Nat, jr Z v0 11 = some b25 → ((¬ (0 : Int32) < 0 ∧ ¬ (0 : Int32) < 0 ∧ ¬ (3 : Int32) < 0 ∧ (0 : Int32).toNatClampNeg + (3 : Int32).toNatClampNeg ≤ 3 ∧ (0 : Int32).toNatClampNeg + (3 : Int32).toNatClampNeg ≤ 3) ∧ (∀ I27 : jI, I27 = va_up I18 b24 (va_cpy (I18 b23) (I18 b24) (0 : Int32).toNatClampNeg (0 : Int32).toNatClampNeg (3 : Int32).toNatClampNeg) → (∀ b28 : Nat, jr Z v0 2 = some b28 → (f_X8_mindsFeud b28 v4 v5 Z I27 L19 (fun r34 I31 L32 => ((r34 = 0 → f_X11_peace_b121 K19 (f_X11_peace_L32 K19 Q n) Q v0 v1 v2 v3 v4 v5 Z I31 L32) ∧ (¬ (r34 = 0) → (∀ b36 : Nat, jr Z v0 2 = some b36 → (f_X8_quarrel b36 v4 v5 (0 : Int32) Z I31 L32 (fun I39 L40 => (∀ b42 : Nat, jr Z v0 12 = some b42 → (f_X11_sumUp v0 (-1 : Int32) b42 Z I39 L40 (fun Z44 I45 L46 => (∀ b49 : Nat, jr Z44 v0 2 = some b49 → (f_X8_quarrel b49 v4 v5 (1 : Int32) Z44 I45 L46 (fun I52 L53 => f_X11_peace_b121 K19 (f_X11_peace_L32 K19 Q n) Q v0 v1 v2 v3 v4 v5 Z44 I52 L53)))))))))))))))))))) ∧ (r21 = 0 → f_X11_peace_b175 K19 (f_X11_peace_L32 K19 Q n) Q v0 v1 v2 v3 v4 v5 Z I18 L19)))))))
set_option maxHeartbeats 4000000 in
set_option maxRecDepth 100000 in
theorem m_X11_peace_L32 {G : jG} {Z0 : jZ} {Q : Int32 → jZ → jI → jL → Prop} (E : jE G cX11_peace RX11 w_X11_peace 6 (some .int) { frames := 7, cells := 0, slots := 0, locals := 176 } (xrtI Z0 Q)) (K19 : Nat → Int32 → Int32 → Int32 → Int32 → jZ → jI → jL → Prop) (hK19 : ∀ (v0 : Nat) (v1 : Int32) (v2 : Int32) (v3 : Int32) (v4 : Int32) (Z : jZ) (I : jI) (L : jL), SH Z → jext Z0 Z → jk Z v0 11 → K19 v0 v1 v2 v3 v4 Z I L → jJ G 6 19 [(0, .ref v0), (1, .int v1), (2, .int v2), (3, .int v3), (4, .int v4)] [] Z I L 0 0) : ∀ (n : Nat) (v0 : Nat) (v1 : Int32) (v2 : Int32) (v3 : Int32) (v4 : Int32) (v5 : Int32) (Z : jZ) (I : jI) (L : jL), SH Z → jext Z0 Z → jk Z v0 11 → f_X11_peace_L32 K19 Q n v0 v1 v2 v3 v4 v5 Z I L → jJ G 6 32 [(0, .ref v0), (1, .int v1), (2, .int v2), (3, .int v3), (4, .int v4), (5, .int v5)] [] Z I L 0 0 := by
  intro n
  induction n with
  | zero => intro v0 v1 v2 v3 v4 v5 Z I L _ _ _ h; exact h.elim
  | succ n ih =>
    intro v0 v1 v2 v3 v4 v5 Z I L hZ hx kv0 h
    have h : (((8 : Int32) ≤ v5 → (∀ x14 : Int32, x14 = v4 + 1 → K19 v0 v1 v2 v3 x14 Z I L)) ∧ (¬ ((8 : Int32) ≤ v5) → (∀ b15 : Nat, jr Z v0 2 = some b15 → (f_X8_inFeud b15 v4 v5 Z I L (fun r21 I18 L19 => ((¬ r21 = 0 → (∀ b23 : Nat, jr Z v0 11 = some b23 → (∀ b24 : Nat, jr Z v0 12 = some b24 → (∀ b25 : Nat, jr Z v0 11 = some b25 → ((¬ (0 : Int32) < 0 ∧ ¬ (0 : Int32) < 0 ∧ ¬ (3 : Int32) < 0 ∧ (0 : Int32).toNatClampNeg + (3 : Int32).toNatClampNeg ≤ 3 ∧ (0 : Int32).toNatClampNeg + (3 : Int32).toNatClampNeg ≤ 3) ∧ (∀ I27 : jI, I27 = va_up I18 b24 (va_cpy (I18 b23) (I18 b24) (0 : Int32).toNatClampNeg (0 : Int32).toNatClampNeg (3 : Int32).toNatClampNeg) → (∀ b28 : Nat, jr Z v0 2 = some b28 → (f_X8_mindsFeud b28 v4 v5 Z I27 L19 (fun r34 I31 L32 => ((r34 = 0 → f_X11_peace_b121 K19 (f_X11_peace_L32 K19 Q n) Q v0 v1 v2 v3 v4 v5 Z I31 L32) ∧ (¬ (r34 = 0) → (∀ b36 : Nat, jr Z v0 2 = some b36 → (f_X8_quarrel b36 v4 v5 (0 : Int32) Z I31 L32 (fun I39 L40 => (∀ b42 : Nat, jr Z v0 12 = some b42 → (f_X11_sumUp v0 (-1 : Int32) b42 Z I39 L40 (fun Z44 I45 L46 => (∀ b49 : Nat, jr Z44 v0 2 = some b49 → (f_X8_quarrel b49 v4 v5 (1 : Int32) Z44 I45 L46 (fun I52 L53 => f_X11_peace_b121 K19 (f_X11_peace_L32 K19 Q n) Q v0 v1 v2 v3 v4 v5 Z44 I52 L53)))))))))))))))))))) ∧ (r21 = 0 → f_X11_peace_b175 K19 (f_X11_peace_L32 K19 Q n) Q v0 v1 v2 v3 v4 v5 Z I18 L19))))))) := h
    obtain ⟨K32, eK32⟩ : ∃ K : Nat → Int32 → Int32 → Int32 → Int32 → Int32 → jZ → jI → jL → Prop, K = f_X11_peace_L32 K19 Q n := ⟨_, rfl⟩
    have hK32 := ih
    clear eK32 K32
    generalize f_X11_peace_L32 K19 Q n = K32 at hK32 h
    refine j_iload E dX11_peace_32 5 rfl ?_
    refine j_bipush E (v := 8) dX11_peace_34 (by decide) ?_
    refine j_icmp_ge E 181 dX11_peace_36 (by decide) (fun c13 => ?_) (fun c13 => ?_)
    · have h := h.1 c13
      obtain ⟨x14, ex14⟩ : ∃ y : Int32, y = v4 + 1 := ⟨_, rfl⟩
      have h := h x14 ex14
      refine j_iinc E x14 [(4, .int x14), (0, .ref v0), (1, .int v1), (2, .int v2), (3, .int v3), (5, .int v5)] dX11_peace_181 4 rfl (by rw [ex14]; rfl) (by decide) rfl ?_
      refine j_goto E 19 dX11_peace_184 (by decide) ?_
      refine j_sub [1, 2, 3, 4, 0] rfl ?_
      exact hK19 v0 v1 v2 v3 x14 Z I L hZ hx kv0 h
    · have h := h.2 c13
      refine j_aload_n E dX11_peace_39 0 rfl ?_
      obtain ⟨b15, eb15, kb15⟩ := sh_o hZ kv0 (j := 2) (k := 8) rfl
      have h := h b15 eb15
      refine j_getr E 11 2 rfl rfl (by decide) (by decide) (iw iT_11) rfl rfl (tw W_438) kv0 eb15 dX11_peace_40 ?_
      refine j_iload E dX11_peace_43 4 rfl ?_
      refine j_iload E dX11_peace_45 5 rfl ?_
      refine j_callV E [.int v4, .int v5] [] (c_X8_inFeud (gL G) (gD G) (gY G) b15 v4 v5 Z I L _ hZ kb15 h) (gwV W_575 W_263 W_264 W_248 W_261) rfl ⟨rfl, fy_X8_inFeud⟩ ⟨by decide, by decide⟩ (c := 8) rfl (by decide) kb15 rfl rfl (Nat.le_of_ble_eq_true rfl) ⟨Nat.zero_le _, Nat.zero_le _⟩ dX11_peace_47 (fun v16 Z17 I18 L19 q20 => ?_)
      obtain ⟨rfl, r21, rfl, zr21, h⟩ := q20
      show jJ G 6 50 [(0, .ref v0), (1, .int v1), (2, .int v2), (3, .int v3), (4, .int v4), (5, .int v5)] [.int r21] Z I18 L19 0 0
      refine j_if_ne E 56 dX11_peace_50 (by decide) (fun c22 => ?_) (fun c22 => ?_)
      · have h := h.1 c22
        refine j_aload_n E dX11_peace_56 0 rfl ?_
        obtain ⟨b23, eb23, kb23, lb23⟩ := sh_f hZ kv0 (j := 11) (k := 14) (m := 3) rfl
        have h := h b23 eb23
        refine j_getr E 11 11 rfl rfl (by decide) (by decide) (iw iT_11) rfl rfl (tw W_546) kv0 eb23 dX11_peace_57 ?_
        refine j_iconst E (v := 0) dX11_peace_60 (by decide) ?_
        refine j_aload_n E dX11_peace_61 0 rfl ?_
        obtain ⟨b24, eb24, kb24, lb24⟩ := sh_f hZ kv0 (j := 12) (k := 14) (m := 3) rfl
        have h := h b24 eb24
        refine j_getr E 11 12 rfl rfl (by decide) (by decide) (iw iT_11) rfl rfl (tw W_551) kv0 eb24 dX11_peace_62 ?_
        refine j_iconst E (v := 0) dX11_peace_65 (by decide) ?_
        refine j_aload_n E dX11_peace_66 0 rfl ?_
        obtain ⟨b25, eb25, kb25, lb25⟩ := sh_f hZ kv0 (j := 11) (k := 14) (m := 3) rfl
        have h := h b25 eb25
        refine j_getr E 11 11 rfl rfl (by decide) (by decide) (iw iT_11) rfl rfl (tw W_546) kv0 eb25 dX11_peace_67 ?_
        refine j_alen14 E (v := 3) kb25 (by rw [lb25]; rfl) dX11_peace_70 ?_
        obtain ⟨o26, h⟩ := h
        refine j_copyi E (tw W_576) (tw W_146) (tw W_147) (tw W_148) kb23 kb24 o26.1 o26.2.1 o26.2.2.1 (by rw [lb23]; exact o26.2.2.2.1) (by rw [lb24]; exact o26.2.2.2.2) (by decide) (Nat.le_of_ble_eq_true rfl) dX11_peace_71 ?_
        refine j_nmI (fun I27 eI27 => ?_)
        have h := h I27 eI27
        refine j_aload_n E dX11_peace_74 0 rfl ?_
        obtain ⟨b28, eb28, kb28⟩ := sh_o hZ kv0 (j := 2) (k := 8) rfl
        have h := h b28 eb28
        refine j_getr E 11 2 rfl rfl (by decide) (by decide) (iw iT_11) rfl rfl (tw W_438) kv0 eb28 dX11_peace_75 ?_
        refine j_iload E dX11_peace_78 4 rfl ?_
        refine j_iload E dX11_peace_80 5 rfl ?_
        refine j_callV E [.int v4, .int v5] [] (c_X8_mindsFeud (gL G) (gD G) (gY G) b28 v4 v5 Z I27 L19 _ hZ kb28 h) (gwV W_578 W_579 W_580 W_248 W_577) rfl ⟨rfl, fy_X8_mindsFeud⟩ ⟨by decide, by decide⟩ (c := 8) rfl (by decide) kb28 rfl rfl (Nat.le_of_ble_eq_true rfl) ⟨Nat.zero_le _, Nat.zero_le _⟩ dX11_peace_82 (fun v29 Z30 I31 L32 q33 => ?_)
        obtain ⟨rfl, r34, rfl, zr34, h⟩ := q33
        show jJ G 6 85 [(0, .ref v0), (1, .int v1), (2, .int v2), (3, .int v3), (4, .int v4), (5, .int v5)] [.int r34] Z I31 L32 0 0
        refine j_if_eq E 121 dX11_peace_85 (by decide) (fun c35 => ?_) (fun c35 => ?_)
        · have h := h.1 c35
          refine j_sub [0, 1, 2, 3, 4, 5] rfl ?_
          exact m_X11_peace_b121 E K19 hK19 K32 hK32 v0 v1 v2 v3 v4 v5 Z I31 L32 hZ hx kv0 h
        · have h := h.2 c35
          refine j_aload_n E dX11_peace_88 0 rfl ?_
          obtain ⟨b36, eb36, kb36⟩ := sh_o hZ kv0 (j := 2) (k := 8) rfl
          have h := h b36 eb36
          refine j_getr E 11 2 rfl rfl (by decide) (by decide) (iw iT_11) rfl rfl (tw W_438) kv0 eb36 dX11_peace_89 ?_
          refine j_iload E dX11_peace_92 4 rfl ?_
          refine j_iload E dX11_peace_94 5 rfl ?_
          refine j_iconst E (v := 0) dX11_peace_96 (by decide) ?_
          refine j_callV E [.int v4, .int v5, .int (0 : Int32)] [] (c_X8_quarrel (gL G) (gD G) (gY G) b36 v4 v5 (0 : Int32) Z I31 L32 _ hZ kb36 h) (gwV W_462 W_463 W_464 W_248 W_461) rfl ⟨rfl, fy_X8_quarrel⟩ ⟨by decide, by decide⟩ (c := 8) rfl (by decide) kb36 rfl rfl (Nat.le_of_ble_eq_true rfl) ⟨Nat.zero_le _, Nat.zero_le _⟩ dX11_peace_97 (fun v37 Z38 I39 L40 q41 => ?_)
          obtain ⟨rfl, rfl, h⟩ := q41
          show jJ G 6 100 [(0, .ref v0), (1, .int v1), (2, .int v2), (3, .int v3), (4, .int v4), (5, .int v5)] [] Z I39 L40 0 0
          refine j_aload_n E dX11_peace_100 0 rfl ?_
          refine j_iconst E (v := -1) dX11_peace_101 (by decide) ?_
          refine j_aload_n E dX11_peace_102 0 rfl ?_
          obtain ⟨b42, eb42, kb42, lb42⟩ := sh_f hZ kv0 (j := 12) (k := 14) (m := 3) rfl
          have h := h b42 eb42
          refine j_getr E 11 12 rfl rfl (by decide) (by decide) (iw iT_11) rfl rfl (tw W_551) kv0 eb42 dX11_peace_103 ?_
          refine j_callV E [.int (-1 : Int32), .ref b42] [] (c_X11_sumUp (gL G) (gD G) (gY G) v0 (-1 : Int32) b42 Z I39 L40 _ hZ kv0 kb42 h) (gwV W_548 W_549 W_550 W_28 W_547) rfl ⟨rfl, fy_X11_sumUp⟩ ⟨by decide, by decide⟩ (c := 11) rfl (by decide) kv0 rfl rfl (Nat.le_of_ble_eq_true rfl) ⟨Nat.zero_le _, Nat.zero_le _⟩ dX11_peace_106 (fun v43 Z44 I45 L46 q47 => ?_)
          obtain ⟨yZ44, hZ44, rfl, h⟩ := q47
          have hZ := hZ44
          have hx : jext Z0 Z44 := jext_trans hx yZ44
          have k48 := (yZ44 _ _ kv0).1
          show jJ G 6 109 [(0, .ref v0), (1, .int v1), (2, .int v2), (3, .int v3), (4, .int v4), (5, .int v5)] [] Z44 I45 L46 0 0
          refine j_aload_n E dX11_peace_109 0 rfl ?_
          obtain ⟨b49, eb49, kb49⟩ := sh_o hZ k48 (j := 2) (k := 8) rfl
          have h := h b49 eb49
          refine j_getr E 11 2 rfl rfl (by decide) (by decide) (iw iT_11) rfl rfl (tw W_438) k48 eb49 dX11_peace_110 ?_
          refine j_iload E dX11_peace_113 4 rfl ?_
          refine j_iload E dX11_peace_115 5 rfl ?_
          refine j_iconst E (v := 1) dX11_peace_117 (by decide) ?_
          refine j_callV E [.int v4, .int v5, .int (1 : Int32)] [] (c_X8_quarrel (gL G) (gD G) (gY G) b49 v4 v5 (1 : Int32) Z44 I45 L46 _ hZ kb49 h) (gwV W_462 W_463 W_464 W_248 W_461) rfl ⟨rfl, fy_X8_quarrel⟩ ⟨by decide, by decide⟩ (c := 8) rfl (by decide) kb49 rfl rfl (Nat.le_of_ble_eq_true rfl) ⟨Nat.zero_le _, Nat.zero_le _⟩ dX11_peace_118 (fun v50 Z51 I52 L53 q54 => ?_)
          obtain ⟨rfl, rfl, h⟩ := q54
          show jJ G 6 121 [(0, .ref v0), (1, .int v1), (2, .int v2), (3, .int v3), (4, .int v4), (5, .int v5)] [] Z44 I52 L53 0 0
          refine j_sub [0, 1, 2, 3, 4, 5] rfl ?_
          exact m_X11_peace_b121 E K19 hK19 K32 hK32 v0 v1 v2 v3 v4 v5 Z44 I52 L53 hZ hx k48 h
      · have h := h.2 c22
        refine j_goto E 175 dX11_peace_53 (by decide) ?_
        refine j_sub [0, 1, 2, 3, 4, 5] rfl ?_
        exact m_X11_peace_b175 E K19 hK19 K32 hK32 v0 v1 v2 v3 v4 v5 Z I18 L19 hZ hx kv0 h
set_option maxRecDepth 100000 in
def f_X11_peace_L19  (Q : Int32 → jZ → jI → jL → Prop) : Nat → Nat → Int32 → Int32 → Int32 → Int32 → jZ → jI → jL → Prop
  | 0 => fun _ _ _ _ _ _ _ _ => False
  | n + 1 => fun v0 v1 v2 v3 v4 Z I L => (((8 : Int32) ≤ v4 → ((v1 = (-2 : Int32) → Q v1 Z I L) ∧ (¬ (v1 = (-2 : Int32)) → (f_X11_tellTwo v0 (v2.toInt64) (v3.toInt64) Z I L (fun I59 L60 => Q v1 Z I59 L60))))) ∧ (¬ ((8 : Int32) ≤ v4) → (∀ x62 : Int32, x62 = (v4 + (1 : Int32)) → (∃ m32 : Nat, f_X11_peace_L32 (f_X11_peace_L19 Q n) Q m32 v0 v1 v2 v3 v4 x62 Z I L))))
set_option maxHeartbeats 4000000 in
set_option maxRecDepth 100000 in
theorem m_X11_peace_L19 {G : jG} {Z0 : jZ} {Q : Int32 → jZ → jI → jL → Prop} (E : jE G cX11_peace RX11 w_X11_peace 6 (some .int) { frames := 7, cells := 0, slots := 0, locals := 176 } (xrtI Z0 Q))  : ∀ (n : Nat) (v0 : Nat) (v1 : Int32) (v2 : Int32) (v3 : Int32) (v4 : Int32) (Z : jZ) (I : jI) (L : jL), SH Z → jext Z0 Z → jk Z v0 11 → f_X11_peace_L19  Q n v0 v1 v2 v3 v4 Z I L → jJ G 6 19 [(0, .ref v0), (1, .int v1), (2, .int v2), (3, .int v3), (4, .int v4)] [] Z I L 0 0 := by
  intro n
  induction n with
  | zero => intro v0 v1 v2 v3 v4 Z I L _ _ _ h; exact h.elim
  | succ n ih =>
    intro v0 v1 v2 v3 v4 Z I L hZ hx kv0 h
    have h : (((8 : Int32) ≤ v4 → ((v1 = (-2 : Int32) → Q v1 Z I L) ∧ (¬ (v1 = (-2 : Int32)) → (f_X11_tellTwo v0 (v2.toInt64) (v3.toInt64) Z I L (fun I59 L60 => Q v1 Z I59 L60))))) ∧ (¬ ((8 : Int32) ≤ v4) → (∀ x62 : Int32, x62 = (v4 + (1 : Int32)) → (∃ m32 : Nat, f_X11_peace_L32 (f_X11_peace_L19 Q n) Q m32 v0 v1 v2 v3 v4 x62 Z I L)))) := h
    obtain ⟨K19, eK19⟩ : ∃ K : Nat → Int32 → Int32 → Int32 → Int32 → jZ → jI → jL → Prop, K = f_X11_peace_L19  Q n := ⟨_, rfl⟩
    have hK19 := ih
    clear eK19 K19
    generalize f_X11_peace_L19  Q n = K19 at hK19 h
    refine j_iload E dX11_peace_19 4 rfl ?_
    refine j_bipush E (v := 8) dX11_peace_21 (by decide) ?_
    refine j_icmp_ge E 187 dX11_peace_23 (by decide) (fun c55 => ?_) (fun c55 => ?_)
    · have h := h.1 c55
      refine j_iload_n E dX11_peace_187 1 rfl ?_
      refine j_bipush E (v := -2) dX11_peace_188 (by decide) ?_
      refine j_icmp_eq E 201 dX11_peace_190 (by decide) (fun c56 => ?_) (fun c56 => ?_)
      · have h := h.1 c56
        refine j_iload_n E dX11_peace_201 1 rfl ?_
        exact j_ireturn E ⟨hx, hZ, _, rfl, h⟩ (Nat.zero_le _) (Nat.zero_le _) dX11_peace_202
      · have h := h.2 c56
        refine j_aload_n E dX11_peace_193 0 rfl ?_
        refine j_iload_n E dX11_peace_194 2 rfl ?_
        refine j_i2l E dX11_peace_195 ?_
        refine j_iload_n E dX11_peace_196 3 rfl ?_
        refine j_i2l E dX11_peace_197 ?_
        refine j_callV E [.long (v2.toInt64), .long (v3.toInt64)] [] (c_X11_tellTwo (gL G) (gD G) (gY G) v0 (v2.toInt64) (v3.toInt64) Z I L _ hZ kv0 h) (gwV W_485 W_486 W_487 W_28 W_484) rfl ⟨rfl, fy_X11_tellTwo⟩ ⟨by decide, by decide⟩ (c := 11) rfl (by decide) kv0 rfl rfl (Nat.le_of_ble_eq_true rfl) ⟨Nat.zero_le _, Nat.zero_le _⟩ dX11_peace_198 (fun v57 Z58 I59 L60 q61 => ?_)
        obtain ⟨rfl, rfl, h⟩ := q61
        show jJ G 6 201 [(0, .ref v0), (1, .int v1), (2, .int v2), (3, .int v3), (4, .int v4)] [] Z I59 L60 0 0
        refine j_iload_n E dX11_peace_201 1 rfl ?_
        exact j_ireturn E ⟨hx, hZ, _, rfl, h⟩ (Nat.zero_le _) (Nat.zero_le _) dX11_peace_202
    · have h := h.2 c55
      refine j_iload E dX11_peace_26 4 rfl ?_
      refine j_iconst E (v := 1) dX11_peace_28 (by decide) ?_
      refine j_iadd E dX11_peace_29 ?_
      refine j_topi (fun x62 ex62 => ?_)
      have h := h x62 ex62
      refine j_istore E 5 [(5, .int x62), (0, .ref v0), (1, .int v1), (2, .int v2), (3, .int v3), (4, .int v4)] dX11_peace_30 (by decide) rfl ?_
      obtain ⟨n63, h⟩ := h
      refine j_sub [1, 2, 3, 4, 5, 0] rfl ?_
      exact m_X11_peace_L32 E K19 hK19 n63 v0 v1 v2 v3 v4 x62 Z I L hZ hx kv0 h
set_option maxRecDepth 100000 in
def f_X11_peace (v0 : Nat) (Z : jZ) (I : jI) (L : jL) (Q : Int32 → jZ → jI → jL → Prop) : Prop := (∀ b64 : Nat, jr Z v0 11 = some b64 → (f_X11_sumUp v0 (-1 : Int32) b64 Z I L (fun Z66 I67 L68 => (∃ m19 : Nat, f_X11_peace_L19  Q m19 v0 (-2 : Int32) (0 : Int32) (0 : Int32) (0 : Int32) Z66 I67 L68))))
set_option maxHeartbeats 4000000 in
set_option maxRecDepth 100000 in
theorem c_X11_peace (l : Launch) (D : va_G) (cy : jC) (v0 : Nat) (Z : jZ) (I : jI) (L : jL) (Q : Int32 → jZ → jI → jL → Prop) (hZ : SH Z) (kv0 : jk Z v0 11) (h : f_X11_peace v0 Z I L Q) : jCt l yX11_peace w_X11_peace { frames := 7, cells := 0, slots := 0, locals := 176 } D cy [.ref v0] Z I L (xrtI Z Q) := by
  refine jCt_of (cc := cX11_peace) (maxL := 6) (ret := (some .int)) (by decide +kernel) rfl (Nat.le_of_ble_eq_true rfl) ?_
  intro G eD eY eL E
  subst eD; subst eY; subst eL
  have E : jE G cX11_peace RX11 w_X11_peace 6 (some .int) { frames := 7, cells := 0, slots := 0, locals := 176 } (xrtI Z Q) := E
  have hx : jext Z Z := jext_rfl
  show jJ G 6 0 [(0, .ref v0)] [] Z I L 0 0
  refine j_aload_n E dX11_peace_0 0 rfl ?_
  refine j_iconst E (v := -1) dX11_peace_1 (by decide) ?_
  refine j_aload_n E dX11_peace_2 0 rfl ?_
  obtain ⟨b64, eb64, kb64, lb64⟩ := sh_f hZ kv0 (j := 11) (k := 14) (m := 3) rfl
  have h := h b64 eb64
  refine j_getr E 11 11 rfl rfl (by decide) (by decide) (iw iT_11) rfl rfl (tw W_546) kv0 eb64 dX11_peace_3 ?_
  refine j_callV E [.int (-1 : Int32), .ref b64] [] (c_X11_sumUp (gL G) (gD G) (gY G) v0 (-1 : Int32) b64 Z I L _ hZ kv0 kb64 h) (gwV W_548 W_549 W_550 W_28 W_547) rfl ⟨rfl, fy_X11_sumUp⟩ ⟨by decide, by decide⟩ (c := 11) rfl (by decide) kv0 rfl rfl (Nat.le_of_ble_eq_true rfl) ⟨Nat.zero_le _, Nat.zero_le _⟩ dX11_peace_6 (fun v65 Z66 I67 L68 q69 => ?_)
  obtain ⟨yZ66, hZ66, rfl, h⟩ := q69
  have hZ := hZ66
  have hx : jext Z Z66 := jext_trans hx yZ66
  have k70 := (yZ66 _ _ kv0).1
  show jJ G 6 9 [(0, .ref v0)] [] Z66 I67 L68 0 0
  refine j_bipush E (v := -2) dX11_peace_9 (by decide) ?_
  refine j_istore_n E 1 [(1, .int (-2 : Int32)), (0, .ref v0)] dX11_peace_11 rfl (by decide) rfl ?_
  refine j_iconst E (v := 0) dX11_peace_12 (by decide) ?_
  refine j_istore_n E 2 [(2, .int (0 : Int32)), (1, .int (-2 : Int32)), (0, .ref v0)] dX11_peace_13 rfl (by decide) rfl ?_
  refine j_iconst E (v := 0) dX11_peace_14 (by decide) ?_
  refine j_istore_n E 3 [(3, .int (0 : Int32)), (2, .int (0 : Int32)), (1, .int (-2 : Int32)), (0, .ref v0)] dX11_peace_15 rfl (by decide) rfl ?_
  refine j_iconst E (v := 0) dX11_peace_16 (by decide) ?_
  refine j_istore E 4 [(4, .int (0 : Int32)), (3, .int (0 : Int32)), (2, .int (0 : Int32)), (1, .int (-2 : Int32)), (0, .ref v0)] dX11_peace_17 (by decide) rfl ?_
  obtain ⟨n71, h⟩ := h
  refine j_sub [4, 3, 2, 1, 0] rfl ?_
  exact m_X11_peace_L19 E  n71 v0 (-2 : Int32) (0 : Int32) (0 : Int32) (0 : Int32) Z66 I67 L68 hZ hx k70 h
set_option maxRecDepth 100000 in
def f_X11_lamps_L28  (Z : jZ) (Q : Int32 → jI → jL → Prop) : Nat → Nat → Int32 → Int32 → jI → jL → Prop
  | 0 => fun _ _ _ _ _ => False
  | n + 1 => fun v0 v1 v2 I L => (∀ b1 : Nat, jr Z v0 2 = some b1 → (((I b1 9) ≤ v2 → Q (I v0 16) I L) ∧ (¬ ((I b1 9) ≤ v2) → (∀ b3 : Nat, jr Z v0 2 = some b3 → (f_X11_tellMore v0 ((if ((I b3 9) - (1 : Int32)) < (v2 + v1) then ((I b3 9) - (1 : Int32)) else (v2 + v1)).toInt64) Z I L (fun I6 L7 => (∀ x9 : Int32, x9 = (v2 + (((2 : Int32) * v1) + (1 : Int32))) → (f_X11_lamps_L28 Z Q n) v0 v1 x9 I6 L7)))))))
set_option maxHeartbeats 4000000 in
set_option maxRecDepth 100000 in
theorem m_X11_lamps_L28 {G : jG} {Z : jZ} {Q : Int32 → jI → jL → Prop} (E : jE G cX11_lamps RX11 w_X11_lamps 3 (some .int) { frames := 1, cells := 0, slots := 0, locals := 23 } (rtI Z Q)) (hZ : SH Z)  : ∀ (n : Nat) (v0 : Nat) (v1 : Int32) (v2 : Int32) (I : jI) (L : jL), jk Z v0 11 → f_X11_lamps_L28  Z Q n v0 v1 v2 I L → jJ G 3 28 [(0, .ref v0), (1, .int v1), (2, .int v2)] [] Z I L 0 0 := by
  intro n
  induction n with
  | zero => intro v0 v1 v2 I L _ h; exact h.elim
  | succ n ih =>
    intro v0 v1 v2 I L kv0 h
    have h : (∀ b1 : Nat, jr Z v0 2 = some b1 → (((I b1 9) ≤ v2 → Q (I v0 16) I L) ∧ (¬ ((I b1 9) ≤ v2) → (∀ b3 : Nat, jr Z v0 2 = some b3 → (f_X11_tellMore v0 ((if ((I b3 9) - (1 : Int32)) < (v2 + v1) then ((I b3 9) - (1 : Int32)) else (v2 + v1)).toInt64) Z I L (fun I6 L7 => (∀ x9 : Int32, x9 = (v2 + (((2 : Int32) * v1) + (1 : Int32))) → (f_X11_lamps_L28 Z Q n) v0 v1 x9 I6 L7))))))) := h
    obtain ⟨K28, eK28⟩ : ∃ K : Nat → Int32 → Int32 → jI → jL → Prop, K = f_X11_lamps_L28  Z Q n := ⟨_, rfl⟩
    have hK28 := ih
    clear eK28 K28
    generalize f_X11_lamps_L28  Z Q n = K28 at hK28 h
    refine j_iload_n E dX11_lamps_28 2 rfl ?_
    refine j_aload_n E dX11_lamps_29 0 rfl ?_
    obtain ⟨b1, eb1, kb1⟩ := sh_o hZ kv0 (j := 2) (k := 8) rfl
    have h := h b1 eb1
    refine j_getr E 11 2 rfl rfl (by decide) (by decide) (iw iT_11) rfl rfl (tw W_438) kv0 eb1 dX11_lamps_30 ?_
    refine j_getiN E 8 9 rfl rfl (by decide) (by decide) (iw iT_8) rfl rfl (nw_8_9_X11_172) kb1 dX11_lamps_33 ?_
    refine j_icmp_ge E 70 dX11_lamps_36 (by decide) (fun c2 => ?_) (fun c2 => ?_)
    · have h := h.1 c2
      refine j_aload_n E dX11_lamps_70 0 rfl ?_
      refine j_geti E 11 16 rfl rfl (by decide) (by decide) (iw iT_11) rfl rfl (tw W_465) kv0 dX11_lamps_71 ?_
      exact j_ireturn E ⟨rfl, _, rfl, h⟩ (Nat.zero_le _) (Nat.zero_le _) dX11_lamps_74
    · have h := h.2 c2
      refine j_aload_n E dX11_lamps_39 0 rfl ?_
      refine j_iload_n E dX11_lamps_40 2 rfl ?_
      refine j_iload_n E dX11_lamps_41 1 rfl ?_
      refine j_iadd E dX11_lamps_42 ?_
      refine j_aload_n E dX11_lamps_43 0 rfl ?_
      obtain ⟨b3, eb3, kb3⟩ := sh_o hZ kv0 (j := 2) (k := 8) rfl
      have h := h b3 eb3
      refine j_getr E 11 2 rfl rfl (by decide) (by decide) (iw iT_11) rfl rfl (tw W_438) kv0 eb3 dX11_lamps_44 ?_
      refine j_getiN E 8 9 rfl rfl (by decide) (by decide) (iw iT_8) rfl rfl (nw_8_9_X11_172) kb3 dX11_lamps_47 ?_
      refine j_iconst E (v := 1) dX11_lamps_50 (by decide) ?_
      refine j_isub E dX11_lamps_51 ?_
      refine j_min E (tw W_451) (tw W_118) (tw W_119) (tw W_120) (by decide) (Nat.le_of_ble_eq_true rfl) (Nat.zero_le _) (Nat.zero_le _) dX11_lamps_52 ?_
      refine j_i2l E dX11_lamps_55 ?_
      refine j_callV E [.long ((if ((I b3 9) - (1 : Int32)) < (v2 + v1) then ((I b3 9) - (1 : Int32)) else (v2 + v1)).toInt64)] [] (c_X11_tellMore (gL G) (gD G) (gY G) v0 ((if ((I b3 9) - (1 : Int32)) < (v2 + v1) then ((I b3 9) - (1 : Int32)) else (v2 + v1)).toInt64) Z I L _ hZ kv0 h) (gwV W_472 W_473 W_474 W_28 W_471) rfl ⟨rfl, fy_X11_tellMore⟩ ⟨by decide, by decide⟩ (c := 11) rfl (by decide) kv0 rfl rfl (Nat.le_of_ble_eq_true rfl) ⟨Nat.zero_le _, Nat.zero_le _⟩ dX11_lamps_56 (fun v4 Z5 I6 L7 q8 => ?_)
      obtain ⟨rfl, rfl, h⟩ := q8
      show jJ G 3 59 [(0, .ref v0), (1, .int v1), (2, .int v2)] [] Z I6 L7 0 0
      refine j_iload_n E dX11_lamps_59 2 rfl ?_
      refine j_iconst E (v := 2) dX11_lamps_60 (by decide) ?_
      refine j_iload_n E dX11_lamps_61 1 rfl ?_
      refine j_imul E dX11_lamps_62 ?_
      refine j_iconst E (v := 1) dX11_lamps_63 (by decide) ?_
      refine j_iadd E dX11_lamps_64 ?_
      refine j_iadd E dX11_lamps_65 ?_
      refine j_topi (fun x9 ex9 => ?_)
      have h := h x9 ex9
      refine j_istore_n E 2 [(2, .int x9), (0, .ref v0), (1, .int v1)] dX11_lamps_66 rfl (by decide) rfl ?_
      refine j_goto E 28 dX11_lamps_67 (by decide) ?_
      refine j_sub [1, 2, 0] rfl ?_
      exact hK28 v0 v1 x9 I6 L7 kv0 h
set_option maxRecDepth 100000 in
def f_X11_lamps (v0 : Nat) (v1 : Int32) (Z : jZ) (I : jI) (L : jL) (Q : Int32 → jI → jL → Prop) : Prop := ((v1 < 0 → Q (-1 : Int32) I L) ∧ (¬ (v1 < 0) → (((24 : Int32) ≤ v1 → Q (-1 : Int32) I L) ∧ (¬ ((24 : Int32) ≤ v1) → (∀ b12 : Nat, jr Z v0 2 = some b12 → ((¬ (I b12 9) = 0 → (f_X11_tellNothing v0 Z I L (fun I16 L17 => (∃ m28 : Nat, f_X11_lamps_L28  Z Q m28 v0 v1 (0 : Int32) I16 L17)))) ∧ ((I b12 9) = 0 → Q (-1 : Int32) I L)))))))
set_option maxHeartbeats 4000000 in
set_option maxRecDepth 100000 in
theorem c_X11_lamps (l : Launch) (D : va_G) (cy : jC) (v0 : Nat) (v1 : Int32) (Z : jZ) (I : jI) (L : jL) (Q : Int32 → jI → jL → Prop) (hZ : SH Z) (kv0 : jk Z v0 11) (h : f_X11_lamps v0 v1 Z I L Q) : jCt l yX11_lamps w_X11_lamps { frames := 1, cells := 0, slots := 0, locals := 23 } D cy [.ref v0, .int v1] Z I L (rtI Z Q) := by
  refine jCt_of (cc := cX11_lamps) (maxL := 3) (ret := (some .int)) (by decide +kernel) rfl (Nat.le_of_ble_eq_true rfl) ?_
  intro G eD eY eL E
  subst eD; subst eY; subst eL
  have E : jE G cX11_lamps RX11 w_X11_lamps 3 (some .int) { frames := 1, cells := 0, slots := 0, locals := 23 } (rtI Z Q) := E
  show jJ G 3 0 [(0, .ref v0), (1, .int v1)] [] Z I L 0 0
  refine j_iload_n E dX11_lamps_0 1 rfl ?_
  refine j_if_lt E 20 dX11_lamps_1 (by decide) (fun c10 => ?_) (fun c10 => ?_)
  · have h := h.1 c10
    refine j_iconst E (v := -1) dX11_lamps_20 (by decide) ?_
    exact j_ireturn E ⟨rfl, _, rfl, h⟩ (Nat.zero_le _) (Nat.zero_le _) dX11_lamps_21
  · have h := h.2 c10
    refine j_iload_n E dX11_lamps_4 1 rfl ?_
    refine j_bipush E (v := 24) dX11_lamps_5 (by decide) ?_
    refine j_icmp_ge E 20 dX11_lamps_7 (by decide) (fun c11 => ?_) (fun c11 => ?_)
    · have h := h.1 c11
      refine j_iconst E (v := -1) dX11_lamps_20 (by decide) ?_
      exact j_ireturn E ⟨rfl, _, rfl, h⟩ (Nat.zero_le _) (Nat.zero_le _) dX11_lamps_21
    · have h := h.2 c11
      refine j_aload_n E dX11_lamps_10 0 rfl ?_
      obtain ⟨b12, eb12, kb12⟩ := sh_o hZ kv0 (j := 2) (k := 8) rfl
      have h := h b12 eb12
      refine j_getr E 11 2 rfl rfl (by decide) (by decide) (iw iT_11) rfl rfl (tw W_438) kv0 eb12 dX11_lamps_11 ?_
      refine j_getiN E 8 9 rfl rfl (by decide) (by decide) (iw iT_8) rfl rfl (nw_8_9_X11_172) kb12 dX11_lamps_14 ?_
      refine j_if_ne E 22 dX11_lamps_17 (by decide) (fun c13 => ?_) (fun c13 => ?_)
      · have h := h.1 c13
        refine j_aload_n E dX11_lamps_22 0 rfl ?_
        refine j_callV E [] [] (c_X11_tellNothing (gL G) (gD G) (gY G) v0 Z I L _ hZ kv0 h) (gwV W_468 W_469 W_470 W_28 W_467) rfl ⟨rfl, fy_X11_tellNothing⟩ ⟨by decide, by decide⟩ (c := 11) rfl (by decide) kv0 rfl rfl (Nat.le_of_ble_eq_true rfl) ⟨Nat.zero_le _, Nat.zero_le _⟩ dX11_lamps_23 (fun v14 Z15 I16 L17 q18 => ?_)
        obtain ⟨rfl, rfl, h⟩ := q18
        show jJ G 3 26 [(0, .ref v0), (1, .int v1)] [] Z I16 L17 0 0
        refine j_iconst E (v := 0) dX11_lamps_26 (by decide) ?_
        refine j_istore_n E 2 [(2, .int (0 : Int32)), (0, .ref v0), (1, .int v1)] dX11_lamps_27 rfl (by decide) rfl ?_
        obtain ⟨n19, h⟩ := h
        refine j_sub [1, 2, 0] rfl ?_
        exact m_X11_lamps_L28 E hZ  n19 v0 v1 (0 : Int32) I16 L17 kv0 h
      · have h := h.2 c13
        refine j_iconst E (v := -1) dX11_lamps_20 (by decide) ?_
        exact j_ireturn E ⟨rfl, _, rfl, h⟩ (Nat.zero_le _) (Nat.zero_le _) dX11_lamps_21
set_option maxRecDepth 100000 in
def f_X11_would (v0 : Nat) (v1 : Int32) (v2 : Int32) (Z : jZ) (I : jI) (L : jL) (Q : Int32 → jZ → jI → jL → Prop) : Prop := (∀ b1 : Nat, jr Z v0 2 = some b1 → (f_X8_has b1 v1 Z I L (fun r7 I4 L5 => ((r7 = 0 → Q (-1 : Int32) Z I4 L5) ∧ (¬ (r7 = 0) → (f_X11_isAsked v2 Z I4 L5 (fun r14 I11 L12 => ((¬ r14 = 0 → (f_X11_weighAlone v0 v1 Z I11 L12 (fun Z17 I18 L19 => (∀ b22 : Nat, jr Z17 v0 13 = some b22 → (vp_in v2 21 ∧ Q (I18 b22 v2.toNatClampNeg) Z17 I18 L19))))) ∧ (r14 = 0 → Q (-1 : Int32) Z I11 L12)))))))))
set_option maxHeartbeats 4000000 in
set_option maxRecDepth 100000 in
theorem c_X11_would (l : Launch) (D : va_G) (cy : jC) (v0 : Nat) (v1 : Int32) (v2 : Int32) (Z : jZ) (I : jI) (L : jL) (Q : Int32 → jZ → jI → jL → Prop) (hZ : SH Z) (kv0 : jk Z v0 11) (h : f_X11_would v0 v1 v2 Z I L Q) : jCt l yX11_would w_X11_would { frames := 7, cells := 0, slots := 0, locals := 183 } D cy [.ref v0, .int v1, .int v2] Z I L (xrtI Z Q) := by
  refine jCt_of (cc := cX11_would) (maxL := 3) (ret := (some .int)) (by decide +kernel) rfl (Nat.le_of_ble_eq_true rfl) ?_
  intro G eD eY eL E
  subst eD; subst eY; subst eL
  have E : jE G cX11_would RX11 w_X11_would 3 (some .int) { frames := 7, cells := 0, slots := 0, locals := 183 } (xrtI Z Q) := E
  have hx : jext Z Z := jext_rfl
  show jJ G 3 0 [(0, .ref v0), (1, .int v1), (2, .int v2)] [] Z I L 0 0
  refine j_aload_n E dX11_would_0 0 rfl ?_
  obtain ⟨b1, eb1, kb1⟩ := sh_o hZ kv0 (j := 2) (k := 8) rfl
  have h := h b1 eb1
  refine j_getr E 11 2 rfl rfl (by decide) (by decide) (iw iT_11) rfl rfl (tw W_438) kv0 eb1 dX11_would_1 ?_
  refine j_iload_n E dX11_would_4 1 rfl ?_
  refine j_callV E [.int v1] [] (c_X8_has (gL G) (gD G) (gY G) b1 v1 Z I L _ hZ kb1 h) (gwV W_447 W_250 W_251 W_248 W_247) rfl ⟨rfl, fy_X8_has⟩ ⟨by decide, by decide⟩ (c := 8) rfl (by decide) kb1 rfl rfl (Nat.le_of_ble_eq_true rfl) ⟨Nat.zero_le _, Nat.zero_le _⟩ dX11_would_5 (fun v2 Z3 I4 L5 q6 => ?_)
  obtain ⟨rfl, r7, rfl, zr7, h⟩ := q6
  show jJ G 3 8 [(0, .ref v0), (1, .int v1), (2, .int v2)] [.int r7] Z I4 L5 0 0
  refine j_if_eq E 18 dX11_would_8 (by decide) (fun c8 => ?_) (fun c8 => ?_)
  · have h := h.1 c8
    refine j_iconst E (v := -1) dX11_would_18 (by decide) ?_
    exact j_ireturn E ⟨hx, hZ, _, rfl, h⟩ (Nat.zero_le _) (Nat.zero_le _) dX11_would_19
  · have h := h.2 c8
    refine j_iload_n E dX11_would_11 2 rfl ?_
    refine j_callS E [.int v2] [] (c_X11_isAsked (gL G) (gD G) (gY G) v2 Z I4 L5 _ hZ  h) (gwS W_581 W_345 W_28 W_344) rfl fy_X11_isAsked ⟨by decide, by decide⟩ rfl rfl (Nat.le_of_ble_eq_true rfl) ⟨Nat.zero_le _, Nat.zero_le _⟩ dX11_would_12 (fun v9 Z10 I11 L12 q13 => ?_)
    obtain ⟨rfl, r14, rfl, zr14, h⟩ := q13
    show jJ G 3 15 [(0, .ref v0), (1, .int v1), (2, .int v2)] [.int r14] Z I11 L12 0 0
    refine j_if_ne E 20 dX11_would_15 (by decide) (fun c15 => ?_) (fun c15 => ?_)
    · have h := h.1 c15
      refine j_aload_n E dX11_would_20 0 rfl ?_
      refine j_iload_n E dX11_would_21 1 rfl ?_
      refine j_callV E [.int v1] [] (c_X11_weighAlone (gL G) (gD G) (gY G) v0 v1 Z I11 L12 _ hZ kv0 h) (gwV W_572 W_573 W_574 W_28 W_571) rfl ⟨rfl, fy_X11_weighAlone⟩ ⟨by decide, by decide⟩ (c := 11) rfl (by decide) kv0 rfl rfl (Nat.le_of_ble_eq_true rfl) ⟨Nat.zero_le _, Nat.zero_le _⟩ dX11_would_22 (fun v16 Z17 I18 L19 q20 => ?_)
      obtain ⟨yZ17, hZ17, rfl, h⟩ := q20
      have hZ := hZ17
      have hx : jext Z Z17 := jext_trans hx yZ17
      have k21 := (yZ17 _ _ kv0).1
      show jJ G 3 25 [(0, .ref v0), (1, .int v1), (2, .int v2)] [] Z17 I18 L19 0 0
      refine j_aload_n E dX11_would_25 0 rfl ?_
      obtain ⟨b22, eb22, kb22, lb22⟩ := sh_f hZ k21 (j := 13) (k := 14) (m := 21) rfl
      have h := h b22 eb22
      refine j_getr E 11 13 rfl rfl (by decide) (by decide) (iw iT_11) rfl rfl (tw W_556) k21 eb22 dX11_would_26 ?_
      refine j_iload_n E dX11_would_29 2 rfl ?_
      obtain ⟨o23, h⟩ := h
      refine j_iald E kb22 (by rw [lb22]; exact o23) dX11_would_30 ?_
      exact j_ireturn E ⟨hx, hZ, _, rfl, h⟩ (Nat.zero_le _) (Nat.zero_le _) dX11_would_31
    · have h := h.2 c15
      refine j_iconst E (v := -1) dX11_would_18 (by decide) ?_
      exact j_ireturn E ⟨hx, hZ, _, rfl, h⟩ (Nat.zero_le _) (Nat.zero_le _) dX11_would_19
set_option maxRecDepth 100000 in
def f_X11_mostPaid_b30 (K4 : Nat → Int32 → Int32 → jI → jL → Prop) (Z : jZ) (Q : Int32 → jI → jL → Prop) (v0 : Nat) (v2 : Int32) (s0 : Int32) (I : jI) (L : jL) : Prop := (∀ x1 : Int32, x1 = v2 + 1 → K4 v0 s0 x1 I L)
set_option maxHeartbeats 4000000 in
set_option maxRecDepth 100000 in
theorem m_X11_mostPaid_b30 {G : jG} {Z : jZ} {Q : Int32 → jI → jL → Prop} (E : jE G cX11_mostPaid RX11 w_X11_mostPaid 3 (some .int) { frames := 0, cells := 0, slots := 0, locals := 0 } (rtI Z Q)) (hZ : SH Z) (K4 : Nat → Int32 → Int32 → jI → jL → Prop) (hK4 : ∀ (v0 : Nat) (v1 : Int32) (v2 : Int32) (I : jI) (L : jL), jk Z v0 11 → K4 v0 v1 v2 I L → jJ G 3 4 [(0, .ref v0), (1, .int v1), (2, .int v2)] [] Z I L 0 0) (v0 : Nat) (v2 : Int32) (s0 : Int32) (I : jI) (L : jL) (kv0 : jk Z v0 11) (h : f_X11_mostPaid_b30 K4 Z Q v0 v2 s0 I L) : jJ G 3 30 [(0, .ref v0), (2, .int v2)] [.int s0] Z I L 0 0 := by
  refine j_istore_n E 1 [(1, .int s0), (0, .ref v0), (2, .int v2)] dX11_mostPaid_30 rfl (by decide) rfl ?_
  obtain ⟨x1, ex1⟩ : ∃ y : Int32, y = v2 + 1 := ⟨_, rfl⟩
  have h := h x1 ex1
  refine j_iinc E x1 [(2, .int x1), (1, .int s0), (0, .ref v0)] dX11_mostPaid_31 2 rfl (by rw [ex1]; rfl) (by decide) rfl ?_
  refine j_goto E 4 dX11_mostPaid_34 (by decide) ?_
  refine j_sub [2, 1, 0] rfl ?_
  exact hK4 v0 s0 x1 I L kv0 h
set_option maxRecDepth 100000 in
def f_X11_mostPaid_L4  (Z : jZ) (Q : Int32 → jI → jL → Prop) : Nat → Nat → Int32 → Int32 → jI → jL → Prop
  | 0 => fun _ _ _ _ _ => False
  | n + 1 => fun v0 v1 v2 I L => (((20 : Int32) < v2 → Q v1 I L) ∧ (¬ ((20 : Int32) < v2) → (∀ b3 : Nat, jr Z v0 13 = some b3 → (vp_in v2 21 ∧ (∀ b5 : Nat, jr Z v0 13 = some b5 → (vp_in v1 21 ∧ (((I b3 v2.toNatClampNeg) ≤ (I b5 v1.toNatClampNeg) → f_X11_mostPaid_b30 (f_X11_mostPaid_L4 Z Q n) Z Q v0 v2 v1 I L) ∧ (¬ ((I b3 v2.toNatClampNeg) ≤ (I b5 v1.toNatClampNeg)) → f_X11_mostPaid_b30 (f_X11_mostPaid_L4 Z Q n) Z Q v0 v2 v2 I L))))))))
set_option maxHeartbeats 4000000 in
set_option maxRecDepth 100000 in
theorem m_X11_mostPaid_L4 {G : jG} {Z : jZ} {Q : Int32 → jI → jL → Prop} (E : jE G cX11_mostPaid RX11 w_X11_mostPaid 3 (some .int) { frames := 0, cells := 0, slots := 0, locals := 0 } (rtI Z Q)) (hZ : SH Z)  : ∀ (n : Nat) (v0 : Nat) (v1 : Int32) (v2 : Int32) (I : jI) (L : jL), jk Z v0 11 → f_X11_mostPaid_L4  Z Q n v0 v1 v2 I L → jJ G 3 4 [(0, .ref v0), (1, .int v1), (2, .int v2)] [] Z I L 0 0 := by
  intro n
  induction n with
  | zero => intro v0 v1 v2 I L _ h; exact h.elim
  | succ n ih =>
    intro v0 v1 v2 I L kv0 h
    have h : (((20 : Int32) < v2 → Q v1 I L) ∧ (¬ ((20 : Int32) < v2) → (∀ b3 : Nat, jr Z v0 13 = some b3 → (vp_in v2 21 ∧ (∀ b5 : Nat, jr Z v0 13 = some b5 → (vp_in v1 21 ∧ (((I b3 v2.toNatClampNeg) ≤ (I b5 v1.toNatClampNeg) → f_X11_mostPaid_b30 (f_X11_mostPaid_L4 Z Q n) Z Q v0 v2 v1 I L) ∧ (¬ ((I b3 v2.toNatClampNeg) ≤ (I b5 v1.toNatClampNeg)) → f_X11_mostPaid_b30 (f_X11_mostPaid_L4 Z Q n) Z Q v0 v2 v2 I L)))))))) := h
    obtain ⟨K4, eK4⟩ : ∃ K : Nat → Int32 → Int32 → jI → jL → Prop, K = f_X11_mostPaid_L4  Z Q n := ⟨_, rfl⟩
    have hK4 := ih
    clear eK4 K4
    generalize f_X11_mostPaid_L4  Z Q n = K4 at hK4 h
    refine j_iload_n E dX11_mostPaid_4 2 rfl ?_
    refine j_bipush E (v := 20) dX11_mostPaid_5 (by decide) ?_
    refine j_icmp_gt E 37 dX11_mostPaid_7 (by decide) (fun c2 => ?_) (fun c2 => ?_)
    · have h := h.1 c2
      refine j_iload_n E dX11_mostPaid_37 1 rfl ?_
      exact j_ireturn E ⟨rfl, _, rfl, h⟩ (Nat.zero_le _) (Nat.zero_le _) dX11_mostPaid_38
    · have h := h.2 c2
      refine j_aload_n E dX11_mostPaid_10 0 rfl ?_
      obtain ⟨b3, eb3, kb3, lb3⟩ := sh_f hZ kv0 (j := 13) (k := 14) (m := 21) rfl
      have h := h b3 eb3
      refine j_getr E 11 13 rfl rfl (by decide) (by decide) (iw iT_11) rfl rfl (tw W_556) kv0 eb3 dX11_mostPaid_11 ?_
      refine j_iload_n E dX11_mostPaid_14 2 rfl ?_
      obtain ⟨o4, h⟩ := h
      refine j_iald E kb3 (by rw [lb3]; exact o4) dX11_mostPaid_15 ?_
      refine j_aload_n E dX11_mostPaid_16 0 rfl ?_
      obtain ⟨b5, eb5, kb5, lb5⟩ := sh_f hZ kv0 (j := 13) (k := 14) (m := 21) rfl
      have h := h b5 eb5
      refine j_getr E 11 13 rfl rfl (by decide) (by decide) (iw iT_11) rfl rfl (tw W_556) kv0 eb5 dX11_mostPaid_17 ?_
      refine j_iload_n E dX11_mostPaid_20 1 rfl ?_
      obtain ⟨o6, h⟩ := h
      refine j_iald E kb5 (by rw [lb5]; exact o6) dX11_mostPaid_21 ?_
      refine j_icmp_le E 29 dX11_mostPaid_22 (by decide) (fun c7 => ?_) (fun c7 => ?_)
      · have h := h.1 c7
        refine j_iload_n E dX11_mostPaid_29 1 rfl ?_
        refine j_sub [0, 2] rfl ?_
        exact m_X11_mostPaid_b30 E hZ K4 hK4 v0 v2 v1 I L kv0 h
      · have h := h.2 c7
        refine j_iload_n E dX11_mostPaid_25 2 rfl ?_
        refine j_goto E 30 dX11_mostPaid_26 (by decide) ?_
        refine j_sub [0, 2] rfl ?_
        exact m_X11_mostPaid_b30 E hZ K4 hK4 v0 v2 v2 I L kv0 h
set_option maxRecDepth 100000 in
def f_X11_mostPaid (v0 : Nat) (Z : jZ) (I : jI) (L : jL) (Q : Int32 → jI → jL → Prop) : Prop := (∃ m4 : Nat, f_X11_mostPaid_L4  Z Q m4 v0 (0 : Int32) (1 : Int32) I L)
set_option maxHeartbeats 4000000 in
set_option maxRecDepth 100000 in
theorem c_X11_mostPaid (l : Launch) (D : va_G) (cy : jC) (v0 : Nat) (Z : jZ) (I : jI) (L : jL) (Q : Int32 → jI → jL → Prop) (hZ : SH Z) (kv0 : jk Z v0 11) (h : f_X11_mostPaid v0 Z I L Q) : jCt l yX11_mostPaid w_X11_mostPaid { frames := 0, cells := 0, slots := 0, locals := 0 } D cy [.ref v0] Z I L (rtI Z Q) := by
  refine jCt_of (cc := cX11_mostPaid) (maxL := 3) (ret := (some .int)) (by decide +kernel) rfl (Nat.le_of_ble_eq_true rfl) ?_
  intro G eD eY eL E
  subst eD; subst eY; subst eL
  have E : jE G cX11_mostPaid RX11 w_X11_mostPaid 3 (some .int) { frames := 0, cells := 0, slots := 0, locals := 0 } (rtI Z Q) := E
  show jJ G 3 0 [(0, .ref v0)] [] Z I L 0 0
  refine j_iconst E (v := 0) dX11_mostPaid_0 (by decide) ?_
  refine j_istore_n E 1 [(1, .int (0 : Int32)), (0, .ref v0)] dX11_mostPaid_1 rfl (by decide) rfl ?_
  refine j_iconst E (v := 1) dX11_mostPaid_2 (by decide) ?_
  refine j_istore_n E 2 [(2, .int (1 : Int32)), (1, .int (0 : Int32)), (0, .ref v0)] dX11_mostPaid_3 rfl (by decide) rfl ?_
  obtain ⟨n8, h⟩ := h
  refine j_sub [2, 1, 0] rfl ?_
  exact m_X11_mostPaid_L4 E hZ  n8 v0 (0 : Int32) (1 : Int32) I L kv0 h
set_option maxRecDepth 100000 in
def f_X11_best (v0 : Nat) (v1 : Int32) (Z : jZ) (I : jI) (L : jL) (Q : Int32 → jZ → jI → jL → Prop) : Prop := (∀ b1 : Nat, jr Z v0 2 = some b1 → (f_X8_has b1 v1 Z I L (fun r7 I4 L5 => ((¬ r7 = 0 → (f_X11_weighAlone v0 v1 Z I4 L5 (fun Z10 I11 L12 => (f_X11_mostPaid v0 Z10 I11 L12 (fun r20 I17 L18 => (∀ b21 : Nat, jr Z10 v0 13 = some b21 → (vp_in r20 21 ∧ (f_X11_tellOne v0 ((I17 b21 r20.toNatClampNeg).toInt64) Z10 I17 L18 (fun I25 L26 => Q r20 Z10 I25 L26))))))))) ∧ (r7 = 0 → Q (-1 : Int32) Z I4 L5)))))
set_option maxHeartbeats 4000000 in
set_option maxRecDepth 100000 in
theorem c_X11_best (l : Launch) (D : va_G) (cy : jC) (v0 : Nat) (v1 : Int32) (Z : jZ) (I : jI) (L : jL) (Q : Int32 → jZ → jI → jL → Prop) (hZ : SH Z) (kv0 : jk Z v0 11) (h : f_X11_best v0 v1 Z I L Q) : jCt l yX11_best w_X11_best { frames := 7, cells := 0, slots := 0, locals := 183 } D cy [.ref v0, .int v1] Z I L (xrtI Z Q) := by
  refine jCt_of (cc := cX11_best) (maxL := 3) (ret := (some .int)) (by decide +kernel) rfl (Nat.le_of_ble_eq_true rfl) ?_
  intro G eD eY eL E
  subst eD; subst eY; subst eL
  have E : jE G cX11_best RX11 w_X11_best 3 (some .int) { frames := 7, cells := 0, slots := 0, locals := 183 } (xrtI Z Q) := E
  have hx : jext Z Z := jext_rfl
  show jJ G 3 0 [(0, .ref v0), (1, .int v1)] [] Z I L 0 0
  refine j_aload_n E dX11_best_0 0 rfl ?_
  obtain ⟨b1, eb1, kb1⟩ := sh_o hZ kv0 (j := 2) (k := 8) rfl
  have h := h b1 eb1
  refine j_getr E 11 2 rfl rfl (by decide) (by decide) (iw iT_11) rfl rfl (tw W_438) kv0 eb1 dX11_best_1 ?_
  refine j_iload_n E dX11_best_4 1 rfl ?_
  refine j_callV E [.int v1] [] (c_X8_has (gL G) (gD G) (gY G) b1 v1 Z I L _ hZ kb1 h) (gwV W_447 W_250 W_251 W_248 W_247) rfl ⟨rfl, fy_X8_has⟩ ⟨by decide, by decide⟩ (c := 8) rfl (by decide) kb1 rfl rfl (Nat.le_of_ble_eq_true rfl) ⟨Nat.zero_le _, Nat.zero_le _⟩ dX11_best_5 (fun v2 Z3 I4 L5 q6 => ?_)
  obtain ⟨rfl, r7, rfl, zr7, h⟩ := q6
  show jJ G 3 8 [(0, .ref v0), (1, .int v1)] [.int r7] Z I4 L5 0 0
  refine j_if_ne E 13 dX11_best_8 (by decide) (fun c8 => ?_) (fun c8 => ?_)
  · have h := h.1 c8
    refine j_aload_n E dX11_best_13 0 rfl ?_
    refine j_iload_n E dX11_best_14 1 rfl ?_
    refine j_callV E [.int v1] [] (c_X11_weighAlone (gL G) (gD G) (gY G) v0 v1 Z I4 L5 _ hZ kv0 h) (gwV W_572 W_573 W_574 W_28 W_571) rfl ⟨rfl, fy_X11_weighAlone⟩ ⟨by decide, by decide⟩ (c := 11) rfl (by decide) kv0 rfl rfl (Nat.le_of_ble_eq_true rfl) ⟨Nat.zero_le _, Nat.zero_le _⟩ dX11_best_15 (fun v9 Z10 I11 L12 q13 => ?_)
    obtain ⟨yZ10, hZ10, rfl, h⟩ := q13
    have hZ := hZ10
    have hx : jext Z Z10 := jext_trans hx yZ10
    have k14 := (yZ10 _ _ kv0).1
    show jJ G 3 18 [(0, .ref v0), (1, .int v1)] [] Z10 I11 L12 0 0
    refine j_aload_n E dX11_best_18 0 rfl ?_
    refine j_callV E [] [] (c_X11_mostPaid (gL G) (gD G) (gY G) v0 Z10 I11 L12 _ hZ k14 h) (gwV W_583 W_584 W_585 W_28 W_582) rfl ⟨rfl, fy_X11_mostPaid⟩ ⟨by decide, by decide⟩ (c := 11) rfl (by decide) k14 rfl rfl (Nat.le_of_ble_eq_true rfl) ⟨Nat.zero_le _, Nat.zero_le _⟩ dX11_best_19 (fun v15 Z16 I17 L18 q19 => ?_)
    obtain ⟨rfl, r20, rfl, h⟩ := q19
    show jJ G 3 22 [(0, .ref v0), (1, .int v1)] [.int r20] Z10 I17 L18 0 0
    refine j_istore_n E 2 [(2, .int r20), (0, .ref v0), (1, .int v1)] dX11_best_22 rfl (by decide) rfl ?_
    refine j_aload_n E dX11_best_23 1 rfl ?_
    refine j_aload_n E dX11_best_24 1 rfl ?_
    obtain ⟨b21, eb21, kb21, lb21⟩ := sh_f hZ k14 (j := 13) (k := 14) (m := 21) rfl
    have h := h b21 eb21
    refine j_getr E 11 13 rfl rfl (by decide) (by decide) (iw iT_11) rfl rfl (tw W_556) k14 eb21 dX11_best_25 ?_
    refine j_iload_n E dX11_best_28 0 rfl ?_
    obtain ⟨o22, h⟩ := h
    refine j_iald E kb21 (by rw [lb21]; exact o22) dX11_best_29 ?_
    refine j_i2l E dX11_best_30 ?_
    refine j_callV E [.long ((I17 b21 r20.toNatClampNeg).toInt64)] [] (c_X11_tellOne (gL G) (gD G) (gY G) v0 ((I17 b21 r20.toNatClampNeg).toInt64) Z10 I17 L18 _ hZ k14 h) (gwV W_476 W_477 W_478 W_28 W_475) rfl ⟨rfl, fy_X11_tellOne⟩ ⟨by decide, by decide⟩ (c := 11) rfl (by decide) k14 rfl rfl (Nat.le_of_ble_eq_true rfl) ⟨Nat.zero_le _, Nat.zero_le _⟩ dX11_best_31 (fun v23 Z24 I25 L26 q27 => ?_)
    obtain ⟨rfl, rfl, h⟩ := q27
    show jJ G 3 34 [(2, .int r20), (0, .ref v0), (1, .int v1)] [] Z10 I25 L26 0 0
    refine j_iload_n E dX11_best_34 0 rfl ?_
    exact j_ireturn E ⟨hx, hZ, _, rfl, h⟩ (Nat.zero_le _) (Nat.zero_le _) dX11_best_35
  · have h := h.2 c8
    refine j_iconst E (v := -1) dX11_best_11 (by decide) ?_
    exact j_ireturn E ⟨hx, hZ, _, rfl, h⟩ (Nat.zero_le _) (Nat.zero_le _) dX11_best_12
set_option maxRecDepth 100000 in
def f_X11_climbAllTo_b28 (K2 : Nat → Int32 → Int32 → jZ → jI → jL → Prop) (Q : jZ → jI → jL → Prop) (v0 : Nat) (v1 : Int32) (v2 : Int32) (Z : jZ) (I : jI) (L : jL) : Prop := (∀ x1 : Int32, x1 = v2 + 1 → K2 v0 v1 x1 Z I L)
set_option maxHeartbeats 4000000 in
set_option maxRecDepth 100000 in
theorem m_X11_climbAllTo_b28 {G : jG} {Z0 : jZ} {Q : jZ → jI → jL → Prop} (E : jE G cX11_climbAllTo RX11 w_X11_climbAllTo 4 none { frames := 4, cells := 0, slots := 0, locals := 93 } (xrtV Z0 Q)) (K2 : Nat → Int32 → Int32 → jZ → jI → jL → Prop) (hK2 : ∀ (v0 : Nat) (v1 : Int32) (v2 : Int32) (Z : jZ) (I : jI) (L : jL), SH Z → jext Z0 Z → jk Z v0 11 → K2 v0 v1 v2 Z I L → jJ G 4 2 [(0, .ref v0), (1, .int v1), (2, .int v2)] [] Z I L 0 0) (v0 : Nat) (v1 : Int32) (v2 : Int32) (Z : jZ) (I : jI) (L : jL) (hZ : SH Z) (hx : jext Z0 Z) (kv0 : jk Z v0 11) (h : f_X11_climbAllTo_b28 K2 Q v0 v1 v2 Z I L) : jJ G 4 28 [(0, .ref v0), (1, .int v1), (2, .int v2)] [] Z I L 0 0 := by
  obtain ⟨x1, ex1⟩ : ∃ y : Int32, y = v2 + 1 := ⟨_, rfl⟩
  have h := h x1 ex1
  refine j_iinc E x1 [(2, .int x1), (0, .ref v0), (1, .int v1)] dX11_climbAllTo_28 2 rfl (by rw [ex1]; rfl) (by decide) rfl ?_
  refine j_goto E 2 dX11_climbAllTo_31 (by decide) ?_
  refine j_sub [1, 2, 0] rfl ?_
  exact hK2 v0 v1 x1 Z I L hZ hx kv0 h
set_option maxRecDepth 100000 in
def f_X11_climbAllTo_L2  (Q : jZ → jI → jL → Prop) : Nat → Nat → Int32 → Int32 → jZ → jI → jL → Prop
  | 0 => fun _ _ _ _ _ _ => False
  | n + 1 => fun v0 v1 v2 Z I L => (((I v0 4) ≤ v2 → Q Z I L) ∧ (¬ ((I v0 4) ≤ v2) → (f_X11_find v0 v2 Z I L (fun r8 I5 L6 => ((r8 = none → f_X11_climbAllTo_b28 (f_X11_climbAllTo_L2 Q n) Q v0 v1 v2 Z I5 L6) ∧ (∀ b9 : Nat, r8 = some b9 → (∀ b11 : Nat, jr Z b9 8 = some b11 → (f_X6_raiseOne b11 v1 Z I5 L6 (fun Z13 I14 L15 => f_X11_climbAllTo_b28 (f_X11_climbAllTo_L2 Q n) Q v0 v1 v2 Z13 I14 L15)))))))))
set_option maxHeartbeats 4000000 in
set_option maxRecDepth 100000 in
theorem m_X11_climbAllTo_L2 {G : jG} {Z0 : jZ} {Q : jZ → jI → jL → Prop} (E : jE G cX11_climbAllTo RX11 w_X11_climbAllTo 4 none { frames := 4, cells := 0, slots := 0, locals := 93 } (xrtV Z0 Q))  : ∀ (n : Nat) (v0 : Nat) (v1 : Int32) (v2 : Int32) (Z : jZ) (I : jI) (L : jL), SH Z → jext Z0 Z → jk Z v0 11 → f_X11_climbAllTo_L2  Q n v0 v1 v2 Z I L → jJ G 4 2 [(0, .ref v0), (1, .int v1), (2, .int v2)] [] Z I L 0 0 := by
  intro n
  induction n with
  | zero => intro v0 v1 v2 Z I L _ _ _ h; exact h.elim
  | succ n ih =>
    intro v0 v1 v2 Z I L hZ hx kv0 h
    have h : (((I v0 4) ≤ v2 → Q Z I L) ∧ (¬ ((I v0 4) ≤ v2) → (f_X11_find v0 v2 Z I L (fun r8 I5 L6 => ((r8 = none → f_X11_climbAllTo_b28 (f_X11_climbAllTo_L2 Q n) Q v0 v1 v2 Z I5 L6) ∧ (∀ b9 : Nat, r8 = some b9 → (∀ b11 : Nat, jr Z b9 8 = some b11 → (f_X6_raiseOne b11 v1 Z I5 L6 (fun Z13 I14 L15 => f_X11_climbAllTo_b28 (f_X11_climbAllTo_L2 Q n) Q v0 v1 v2 Z13 I14 L15))))))))) := h
    obtain ⟨K2, eK2⟩ : ∃ K : Nat → Int32 → Int32 → jZ → jI → jL → Prop, K = f_X11_climbAllTo_L2  Q n := ⟨_, rfl⟩
    have hK2 := ih
    clear eK2 K2
    generalize f_X11_climbAllTo_L2  Q n = K2 at hK2 h
    refine j_iload_n E dX11_climbAllTo_2 2 rfl ?_
    refine j_aload_n E dX11_climbAllTo_3 0 rfl ?_
    refine j_geti E 11 4 rfl rfl (by decide) (by decide) (iw iT_11) rfl rfl (tw W_415) kv0 dX11_climbAllTo_4 ?_
    refine j_icmp_ge E 34 dX11_climbAllTo_7 (by decide) (fun c2 => ?_) (fun c2 => ?_)
    · have h := h.1 c2
      exact j_return E ⟨hx, hZ, rfl, h⟩ (Nat.zero_le _) (Nat.zero_le _) dX11_climbAllTo_34
    · have h := h.2 c2
      refine j_aload_n E dX11_climbAllTo_10 0 rfl ?_
      refine j_iload_n E dX11_climbAllTo_11 2 rfl ?_
      refine j_callV E [.int v2] [] (c_X11_find (gL G) (gD G) (gY G) v0 v2 Z I L _ hZ kv0 h) (gwV W_421 W_422 W_423 W_28 W_420) rfl ⟨rfl, fy_X11_find⟩ ⟨by decide, by decide⟩ (c := 11) rfl (by decide) kv0 rfl rfl (Nat.le_of_ble_eq_true rfl) ⟨Nat.zero_le _, Nat.zero_le _⟩ dX11_climbAllTo_12 (fun v3 Z4 I5 L6 q7 => ?_)
      obtain ⟨rfl, r8, rfl, zr8, h⟩ := q7
      show jJ G 4 15 [(0, .ref v0), (1, .int v1), (2, .int v2)] (va_rf r8 :: []) Z I5 L6 0 0
      rcases c10 : r8 with _ | b9
      · have h := h.1 c10
        refine j_rfN rfl ?_
        refine j_astore_nN E 3 [(3, .null), (0, .ref v0), (1, .int v1), (2, .int v2)] dX11_climbAllTo_15 rfl (by decide) rfl ?_
        refine j_aload_nN E dX11_climbAllTo_16 0 rfl ?_
        refine j_ifnullN E 28 dX11_climbAllTo_17 (by decide) ?_
        refine j_sub [1, 2, 3] rfl ?_
        exact m_X11_climbAllTo_b28 E K2 hK2 v0 v1 v2 Z I5 L6 hZ hx kv0 h
      · have h := h.2 b9 c10
        have kb9 := zr8 b9 c10
        refine j_rfS rfl ?_
        refine j_astore_n E 3 [(3, .ref b9), (0, .ref v0), (1, .int v1), (2, .int v2)] dX11_climbAllTo_15 rfl (by decide) rfl ?_
        refine j_aload_n E dX11_climbAllTo_16 0 rfl ?_
        refine j_ifnull E dX11_climbAllTo_17 ?_
        refine j_aload_n E dX11_climbAllTo_20 0 rfl ?_
        obtain ⟨b11, eb11, kb11⟩ := sh_o hZ kb9 (j := 8) (k := 6) rfl
        have h := h b11 eb11
        refine j_getrN E 5 8 rfl rfl (by decide) (by decide) (iw iT_5) rfl rfl (nw_5_8_X11_263) kb9 eb11 dX11_climbAllTo_21 ?_
        refine j_iload_n E dX11_climbAllTo_24 2 rfl ?_
        refine j_callV E [.int v1] [] (c_X6_raiseOne (gL G) (gD G) (gY G) b11 v1 Z I5 L6 _ hZ kb11 h) (gwV W_586 W_313 W_314 W_21 W_311) rfl ⟨rfl, fy_X6_raiseOne⟩ ⟨by decide, by decide⟩ (c := 6) rfl (by decide) kb11 rfl rfl (Nat.le_of_ble_eq_true rfl) ⟨Nat.zero_le _, Nat.zero_le _⟩ dX11_climbAllTo_25 (fun v12 Z13 I14 L15 q16 => ?_)
        obtain ⟨yZ13, hZ13, rfl, h⟩ := q16
        have hZ := hZ13
        have hx : jext Z0 Z13 := jext_trans hx yZ13
        have k17 := (yZ13 _ _ kv0).1
        have k18 := (yZ13 _ _ kb9).1
        show jJ G 4 28 [(3, .ref b9), (0, .ref v0), (1, .int v1), (2, .int v2)] [] Z13 I14 L15 0 0
        refine j_sub [1, 2, 3] rfl ?_
        exact m_X11_climbAllTo_b28 E K2 hK2 v0 v1 v2 Z13 I14 L15 hZ hx k17 h
set_option maxRecDepth 100000 in
def f_X11_climbAllTo (v0 : Nat) (v1 : Int32) (Z : jZ) (I : jI) (L : jL) (Q : jZ → jI → jL → Prop) : Prop := (∃ m2 : Nat, f_X11_climbAllTo_L2  Q m2 v0 v1 (0 : Int32) Z I L)
set_option maxHeartbeats 4000000 in
set_option maxRecDepth 100000 in
theorem c_X11_climbAllTo (l : Launch) (D : va_G) (cy : jC) (v0 : Nat) (v1 : Int32) (Z : jZ) (I : jI) (L : jL) (Q : jZ → jI → jL → Prop) (hZ : SH Z) (kv0 : jk Z v0 11) (h : f_X11_climbAllTo v0 v1 Z I L Q) : jCt l yX11_climbAllTo w_X11_climbAllTo { frames := 4, cells := 0, slots := 0, locals := 93 } D cy [.ref v0, .int v1] Z I L (xrtV Z Q) := by
  refine jCt_of (cc := cX11_climbAllTo) (maxL := 4) (ret := none) (by decide +kernel) rfl (Nat.le_of_ble_eq_true rfl) ?_
  intro G eD eY eL E
  subst eD; subst eY; subst eL
  have E : jE G cX11_climbAllTo RX11 w_X11_climbAllTo 4 none { frames := 4, cells := 0, slots := 0, locals := 93 } (xrtV Z Q) := E
  have hx : jext Z Z := jext_rfl
  show jJ G 4 0 [(0, .ref v0), (1, .int v1)] [] Z I L 0 0
  refine j_iconst E (v := 0) dX11_climbAllTo_0 (by decide) ?_
  refine j_istore_n E 2 [(2, .int (0 : Int32)), (0, .ref v0), (1, .int v1)] dX11_climbAllTo_1 rfl (by decide) rfl ?_
  obtain ⟨n19, h⟩ := h
  refine j_sub [1, 2, 0] rfl ?_
  exact m_X11_climbAllTo_L2 E  n19 v0 v1 (0 : Int32) Z I L hZ hx kv0 h
set_option maxRecDepth 100000 in
def f_X11_measureAllAt_b33 (K2 : Nat → Int32 → Int32 → jI → jL → Prop) (Z : jZ) (Q : jI → jL → Prop) (v0 : Nat) (v1 : Int32) (v2 : Int32) (I : jI) (L : jL) : Prop := (∀ x1 : Int32, x1 = v2 + 1 → K2 v0 v1 x1 I L)
set_option maxHeartbeats 4000000 in
set_option maxRecDepth 100000 in
theorem m_X11_measureAllAt_b33 {G : jG} {Z : jZ} {Q : jI → jL → Prop} (E : jE G cX11_measureAllAt RX11 w_X11_measureAllAt 4 none { frames := 5, cells := 0, slots := 0, locals := 125 } (rtV Z Q)) (hZ : SH Z) (K2 : Nat → Int32 → Int32 → jI → jL → Prop) (hK2 : ∀ (v0 : Nat) (v1 : Int32) (v2 : Int32) (I : jI) (L : jL), jk Z v0 11 → K2 v0 v1 v2 I L → jJ G 4 2 [(0, .ref v0), (1, .int v1), (2, .int v2)] [] Z I L 0 0) (v0 : Nat) (v1 : Int32) (v2 : Int32) (I : jI) (L : jL) (kv0 : jk Z v0 11) (h : f_X11_measureAllAt_b33 K2 Z Q v0 v1 v2 I L) : jJ G 4 33 [(0, .ref v0), (1, .int v1), (2, .int v2)] [] Z I L 0 0 := by
  obtain ⟨x1, ex1⟩ : ∃ y : Int32, y = v2 + 1 := ⟨_, rfl⟩
  have h := h x1 ex1
  refine j_iinc E x1 [(2, .int x1), (0, .ref v0), (1, .int v1)] dX11_measureAllAt_33 2 rfl (by rw [ex1]; rfl) (by decide) rfl ?_
  refine j_goto E 2 dX11_measureAllAt_36 (by decide) ?_
  refine j_sub [1, 2, 0] rfl ?_
  exact hK2 v0 v1 x1 I L kv0 h
set_option maxRecDepth 100000 in
def f_X11_measureAllAt_L2  (Z : jZ) (Q : jI → jL → Prop) : Nat → Nat → Int32 → Int32 → jI → jL → Prop
  | 0 => fun _ _ _ _ _ => False
  | n + 1 => fun v0 v1 v2 I L => (((I v0 4) ≤ v2 → Q I L) ∧ (¬ ((I v0 4) ≤ v2) → (f_X11_find v0 v2 Z I L (fun r8 I5 L6 => ((r8 = none → f_X11_measureAllAt_b33 (f_X11_measureAllAt_L2 Z Q n) Z Q v0 v1 v2 I5 L6) ∧ (∀ b9 : Nat, r8 = some b9 → (∀ b11 : Nat, jr Z b9 8 = some b11 → (f_X6_measure b11 (v1 + (1 : Int32)) (v1 + (3 : Int32)) Z I5 L6 (fun I14 L15 => f_X11_measureAllAt_b33 (f_X11_measureAllAt_L2 Z Q n) Z Q v0 v1 v2 I14 L15)))))))))
set_option maxHeartbeats 4000000 in
set_option maxRecDepth 100000 in
theorem m_X11_measureAllAt_L2 {G : jG} {Z : jZ} {Q : jI → jL → Prop} (E : jE G cX11_measureAllAt RX11 w_X11_measureAllAt 4 none { frames := 5, cells := 0, slots := 0, locals := 125 } (rtV Z Q)) (hZ : SH Z)  : ∀ (n : Nat) (v0 : Nat) (v1 : Int32) (v2 : Int32) (I : jI) (L : jL), jk Z v0 11 → f_X11_measureAllAt_L2  Z Q n v0 v1 v2 I L → jJ G 4 2 [(0, .ref v0), (1, .int v1), (2, .int v2)] [] Z I L 0 0 := by
  intro n
  induction n with
  | zero => intro v0 v1 v2 I L _ h; exact h.elim
  | succ n ih =>
    intro v0 v1 v2 I L kv0 h
    have h : (((I v0 4) ≤ v2 → Q I L) ∧ (¬ ((I v0 4) ≤ v2) → (f_X11_find v0 v2 Z I L (fun r8 I5 L6 => ((r8 = none → f_X11_measureAllAt_b33 (f_X11_measureAllAt_L2 Z Q n) Z Q v0 v1 v2 I5 L6) ∧ (∀ b9 : Nat, r8 = some b9 → (∀ b11 : Nat, jr Z b9 8 = some b11 → (f_X6_measure b11 (v1 + (1 : Int32)) (v1 + (3 : Int32)) Z I5 L6 (fun I14 L15 => f_X11_measureAllAt_b33 (f_X11_measureAllAt_L2 Z Q n) Z Q v0 v1 v2 I14 L15))))))))) := h
    obtain ⟨K2, eK2⟩ : ∃ K : Nat → Int32 → Int32 → jI → jL → Prop, K = f_X11_measureAllAt_L2  Z Q n := ⟨_, rfl⟩
    have hK2 := ih
    clear eK2 K2
    generalize f_X11_measureAllAt_L2  Z Q n = K2 at hK2 h
    refine j_iload_n E dX11_measureAllAt_2 2 rfl ?_
    refine j_aload_n E dX11_measureAllAt_3 0 rfl ?_
    refine j_geti E 11 4 rfl rfl (by decide) (by decide) (iw iT_11) rfl rfl (tw W_415) kv0 dX11_measureAllAt_4 ?_
    refine j_icmp_ge E 39 dX11_measureAllAt_7 (by decide) (fun c2 => ?_) (fun c2 => ?_)
    · have h := h.1 c2
      exact j_return E ⟨rfl, rfl, h⟩ (Nat.zero_le _) (Nat.zero_le _) dX11_measureAllAt_39
    · have h := h.2 c2
      refine j_aload_n E dX11_measureAllAt_10 0 rfl ?_
      refine j_iload_n E dX11_measureAllAt_11 2 rfl ?_
      refine j_callV E [.int v2] [] (c_X11_find (gL G) (gD G) (gY G) v0 v2 Z I L _ hZ kv0 h) (gwV W_421 W_422 W_423 W_28 W_420) rfl ⟨rfl, fy_X11_find⟩ ⟨by decide, by decide⟩ (c := 11) rfl (by decide) kv0 rfl rfl (Nat.le_of_ble_eq_true rfl) ⟨Nat.zero_le _, Nat.zero_le _⟩ dX11_measureAllAt_12 (fun v3 Z4 I5 L6 q7 => ?_)
      obtain ⟨rfl, r8, rfl, zr8, h⟩ := q7
      show jJ G 4 15 [(0, .ref v0), (1, .int v1), (2, .int v2)] (va_rf r8 :: []) Z I5 L6 0 0
      rcases c10 : r8 with _ | b9
      · have h := h.1 c10
        refine j_rfN rfl ?_
        refine j_astore_nN E 3 [(3, .null), (0, .ref v0), (1, .int v1), (2, .int v2)] dX11_measureAllAt_15 rfl (by decide) rfl ?_
        refine j_aload_nN E dX11_measureAllAt_16 0 rfl ?_
        refine j_ifnullN E 33 dX11_measureAllAt_17 (by decide) ?_
        refine j_sub [1, 2, 3] rfl ?_
        exact m_X11_measureAllAt_b33 E hZ K2 hK2 v0 v1 v2 I5 L6 kv0 h
      · have h := h.2 b9 c10
        have kb9 := zr8 b9 c10
        refine j_rfS rfl ?_
        refine j_astore_n E 3 [(3, .ref b9), (0, .ref v0), (1, .int v1), (2, .int v2)] dX11_measureAllAt_15 rfl (by decide) rfl ?_
        refine j_aload_n E dX11_measureAllAt_16 0 rfl ?_
        refine j_ifnull E dX11_measureAllAt_17 ?_
        refine j_aload_n E dX11_measureAllAt_20 0 rfl ?_
        obtain ⟨b11, eb11, kb11⟩ := sh_o hZ kb9 (j := 8) (k := 6) rfl
        have h := h b11 eb11
        refine j_getrN E 5 8 rfl rfl (by decide) (by decide) (iw iT_5) rfl rfl (nw_5_8_X11_263) kb9 eb11 dX11_measureAllAt_21 ?_
        refine j_iload_n E dX11_measureAllAt_24 2 rfl ?_
        refine j_iconst E (v := 1) dX11_measureAllAt_25 (by decide) ?_
        refine j_iadd E dX11_measureAllAt_26 ?_
        refine j_iload_n E dX11_measureAllAt_27 2 rfl ?_
        refine j_iconst E (v := 3) dX11_measureAllAt_28 (by decide) ?_
        refine j_iadd E dX11_measureAllAt_29 ?_
        refine j_callV E [.int (v1 + (1 : Int32)), .int (v1 + (3 : Int32))] [] (c_X6_measure (gL G) (gD G) (gY G) b11 (v1 + (1 : Int32)) (v1 + (3 : Int32)) Z I5 L6 _ hZ kb11 h) (gwV W_587 W_301 W_302 W_21 W_299) rfl ⟨rfl, fy_X6_measure⟩ ⟨by decide, by decide⟩ (c := 6) rfl (by decide) kb11 rfl rfl (Nat.le_of_ble_eq_true rfl) ⟨Nat.zero_le _, Nat.zero_le _⟩ dX11_measureAllAt_30 (fun v12 Z13 I14 L15 q16 => ?_)
        obtain ⟨rfl, rfl, h⟩ := q16
        show jJ G 4 33 [(3, .ref b9), (0, .ref v0), (1, .int v1), (2, .int v2)] [] Z I14 L15 0 0
        refine j_sub [1, 2, 3] rfl ?_
        exact m_X11_measureAllAt_b33 E hZ K2 hK2 v0 v1 v2 I14 L15 kv0 h
set_option maxRecDepth 100000 in
def f_X11_measureAllAt (v0 : Nat) (v1 : Int32) (Z : jZ) (I : jI) (L : jL) (Q : jI → jL → Prop) : Prop := (∃ m2 : Nat, f_X11_measureAllAt_L2  Z Q m2 v0 v1 (0 : Int32) I L)
set_option maxHeartbeats 4000000 in
set_option maxRecDepth 100000 in
theorem c_X11_measureAllAt (l : Launch) (D : va_G) (cy : jC) (v0 : Nat) (v1 : Int32) (Z : jZ) (I : jI) (L : jL) (Q : jI → jL → Prop) (hZ : SH Z) (kv0 : jk Z v0 11) (h : f_X11_measureAllAt v0 v1 Z I L Q) : jCt l yX11_measureAllAt w_X11_measureAllAt { frames := 5, cells := 0, slots := 0, locals := 125 } D cy [.ref v0, .int v1] Z I L (rtV Z Q) := by
  refine jCt_of (cc := cX11_measureAllAt) (maxL := 4) (ret := none) (by decide +kernel) rfl (Nat.le_of_ble_eq_true rfl) ?_
  intro G eD eY eL E
  subst eD; subst eY; subst eL
  have E : jE G cX11_measureAllAt RX11 w_X11_measureAllAt 4 none { frames := 5, cells := 0, slots := 0, locals := 125 } (rtV Z Q) := E
  show jJ G 4 0 [(0, .ref v0), (1, .int v1)] [] Z I L 0 0
  refine j_iconst E (v := 0) dX11_measureAllAt_0 (by decide) ?_
  refine j_istore_n E 2 [(2, .int (0 : Int32)), (0, .ref v0), (1, .int v1)] dX11_measureAllAt_1 rfl (by decide) rfl ?_
  obtain ⟨n17, h⟩ := h
  refine j_sub [1, 2, 0] rfl ?_
  exact m_X11_measureAllAt_L2 E hZ  n17 v0 v1 (0 : Int32) I L kv0 h
set_option maxRecDepth 100000 in
def f_X11_haggle_b131 (K53 : Nat → Int32 → Int32 → jZ → jI → jL → Prop) (Q : Int32 → jZ → jI → jL → Prop) (v0 : Nat) (v1 : Int32) (v2 : Int32) (Z : jZ) (I : jI) (L : jL) : Prop := (∀ x1 : Int32, x1 = v2 + 1 → K53 v0 v1 x1 Z I L)
set_option maxHeartbeats 4000000 in
set_option maxRecDepth 100000 in
theorem m_X11_haggle_b131 {G : jG} {Z0 : jZ} {Q : Int32 → jZ → jI → jL → Prop} (E : jE G cX11_haggle RX11 w_X11_haggle 5 (some .boolean) { frames := 6, cells := 0, slots := 0, locals := 160 } (xrtZ Z0 Q)) (K53 : Nat → Int32 → Int32 → jZ → jI → jL → Prop) (hK53 : ∀ (v0 : Nat) (v1 : Int32) (v2 : Int32) (Z : jZ) (I : jI) (L : jL), SH Z → jext Z0 Z → jk Z v0 11 → K53 v0 v1 v2 Z I L → jJ G 5 53 [(0, .ref v0), (1, .int v1), (2, .int v2)] [] Z I L 0 0) (v0 : Nat) (v1 : Int32) (v2 : Int32) (Z : jZ) (I : jI) (L : jL) (hZ : SH Z) (hx : jext Z0 Z) (kv0 : jk Z v0 11) (h : f_X11_haggle_b131 K53 Q v0 v1 v2 Z I L) : jJ G 5 131 [(0, .ref v0), (1, .int v1), (2, .int v2)] [] Z I L 0 0 := by
  obtain ⟨x1, ex1⟩ : ∃ y : Int32, y = v2 + 1 := ⟨_, rfl⟩
  have h := h x1 ex1
  refine j_iinc E x1 [(2, .int x1), (0, .ref v0), (1, .int v1)] dX11_haggle_131 2 rfl (by rw [ex1]; rfl) (by decide) rfl ?_
  refine j_goto E 53 dX11_haggle_134 (by decide) ?_
  refine j_sub [1, 2, 0] rfl ?_
  exact hK53 v0 v1 x1 Z I L hZ hx kv0 h
set_option maxRecDepth 100000 in
def f_X11_haggle_L53  (Q : Int32 → jZ → jI → jL → Prop) : Nat → Nat → Int32 → Int32 → jZ → jI → jL → Prop
  | 0 => fun _ _ _ _ _ _ => False
  | n + 1 => fun v0 v1 v2 Z I L => (∀ b2 : Nat, jr Z v0 2 = some b2 → (((I b2 9) ≤ v2 → ((v1 = 0 ∨ v1 = 1) ∧ Q v1 Z I L)) ∧ (¬ ((I b2 9) ≤ v2) → (f_X11_climbAllTo v0 v2 Z I L (fun Z6 I7 L8 => (f_X11_weigh v0 v2 Z6 I7 L8 (fun I13 L14 => (f_X11_mostPaid v0 Z6 I13 L14 (fun r21 I18 L19 => (∀ b22 : Nat, jr Z6 v0 2 = some b22 → (∀ b23 : Nat, jr Z6 b22 2 = some b23 → (vp_in v2 24 ∧ (∀ x25 : Int32, x25 = (I18 b23 v2.toNatClampNeg) → (f_X11_isAsked x25 Z6 I18 L19 (fun r31 I28 L29 => ((r31 = 0 → f_X11_haggle_b131 (f_X11_haggle_L53 Q n) Q v0 v1 v2 Z6 I28 L29) ∧ (¬ (r31 = 0) → (∀ b33 : Nat, jr Z6 v0 13 = some b33 → (vp_in r21 21 ∧ (∀ b35 : Nat, jr Z6 v0 13 = some b35 → (vp_in x25 21 ∧ (((I28 b33 r21.toNatClampNeg) ≤ (I28 b35 x25.toNatClampNeg) → f_X11_haggle_b131 (f_X11_haggle_L53 Q n) Q v0 v1 v2 Z6 I28 L29) ∧ (¬ ((I28 b33 r21.toNatClampNeg) ≤ (I28 b35 x25.toNatClampNeg)) → (∀ b38 : Nat, jr Z6 v0 2 = some b38 → (∀ b39 : Nat, jr Z6 b38 2 = some b39 → (vp_in v2 24 ∧ (∀ I41 : jI, I41 = jpI I28 b39 v2.toNatClampNeg r21 → (f_X11_measureAllAt v0 v2 Z6 I41 L29 (fun I44 L45 => f_X11_haggle_b131 (f_X11_haggle_L53 Q n) Q v0 (1 : Int32) v2 Z6 I44 L45)))))))))))))))))))))))))))))
set_option maxHeartbeats 4000000 in
set_option maxRecDepth 100000 in
theorem m_X11_haggle_L53 {G : jG} {Z0 : jZ} {Q : Int32 → jZ → jI → jL → Prop} (E : jE G cX11_haggle RX11 w_X11_haggle 5 (some .boolean) { frames := 6, cells := 0, slots := 0, locals := 160 } (xrtZ Z0 Q))  : ∀ (n : Nat) (v0 : Nat) (v1 : Int32) (v2 : Int32) (Z : jZ) (I : jI) (L : jL), SH Z → jext Z0 Z → jk Z v0 11 → f_X11_haggle_L53  Q n v0 v1 v2 Z I L → jJ G 5 53 [(0, .ref v0), (1, .int v1), (2, .int v2)] [] Z I L 0 0 := by
  intro n
  induction n with
  | zero => intro v0 v1 v2 Z I L _ _ _ h; exact h.elim
  | succ n ih =>
    intro v0 v1 v2 Z I L hZ hx kv0 h
    have h : (∀ b2 : Nat, jr Z v0 2 = some b2 → (((I b2 9) ≤ v2 → ((v1 = 0 ∨ v1 = 1) ∧ Q v1 Z I L)) ∧ (¬ ((I b2 9) ≤ v2) → (f_X11_climbAllTo v0 v2 Z I L (fun Z6 I7 L8 => (f_X11_weigh v0 v2 Z6 I7 L8 (fun I13 L14 => (f_X11_mostPaid v0 Z6 I13 L14 (fun r21 I18 L19 => (∀ b22 : Nat, jr Z6 v0 2 = some b22 → (∀ b23 : Nat, jr Z6 b22 2 = some b23 → (vp_in v2 24 ∧ (∀ x25 : Int32, x25 = (I18 b23 v2.toNatClampNeg) → (f_X11_isAsked x25 Z6 I18 L19 (fun r31 I28 L29 => ((r31 = 0 → f_X11_haggle_b131 (f_X11_haggle_L53 Q n) Q v0 v1 v2 Z6 I28 L29) ∧ (¬ (r31 = 0) → (∀ b33 : Nat, jr Z6 v0 13 = some b33 → (vp_in r21 21 ∧ (∀ b35 : Nat, jr Z6 v0 13 = some b35 → (vp_in x25 21 ∧ (((I28 b33 r21.toNatClampNeg) ≤ (I28 b35 x25.toNatClampNeg) → f_X11_haggle_b131 (f_X11_haggle_L53 Q n) Q v0 v1 v2 Z6 I28 L29) ∧ (¬ ((I28 b33 r21.toNatClampNeg) ≤ (I28 b35 x25.toNatClampNeg)) → (∀ b38 : Nat, jr Z6 v0 2 = some b38 → (∀ b39 : Nat, jr Z6 b38 2 = some b39 → (vp_in v2 24 ∧ (∀ I41 : jI, I41 = jpI I28 b39 v2.toNatClampNeg r21 → (f_X11_measureAllAt v0 v2 Z6 I41 L29 (fun I44 L45 => f_X11_haggle_b131 (f_X11_haggle_L53 Q n) Q v0 (1 : Int32) v2 Z6 I44 L45))))))))))))))))))))))))))))) := h
    obtain ⟨K53, eK53⟩ : ∃ K : Nat → Int32 → Int32 → jZ → jI → jL → Prop, K = f_X11_haggle_L53  Q n := ⟨_, rfl⟩
    have hK53 := ih
    clear eK53 K53
    generalize f_X11_haggle_L53  Q n = K53 at hK53 h
    refine j_iload_n E dX11_haggle_53 2 rfl ?_
    refine j_aload_n E dX11_haggle_54 0 rfl ?_
    obtain ⟨b2, eb2, kb2⟩ := sh_o hZ kv0 (j := 2) (k := 8) rfl
    have h := h b2 eb2
    refine j_getr E 11 2 rfl rfl (by decide) (by decide) (iw iT_11) rfl rfl (tw W_438) kv0 eb2 dX11_haggle_55 ?_
    refine j_getiN E 8 9 rfl rfl (by decide) (by decide) (iw iT_8) rfl rfl (nw_8_9_X11_172) kb2 dX11_haggle_58 ?_
    refine j_icmp_ge E 137 dX11_haggle_61 (by decide) (fun c3 => ?_) (fun c3 => ?_)
    · have h := h.1 c3
      refine j_iload_n E dX11_haggle_137 1 rfl ?_
      obtain ⟨o4, h⟩ := h
      exact j_zreturn E o4 ⟨hx, hZ, _, rfl, o4, h⟩ (Nat.zero_le _) (Nat.zero_le _) dX11_haggle_138
    · have h := h.2 c3
      refine j_aload_n E dX11_haggle_64 0 rfl ?_
      refine j_iload_n E dX11_haggle_65 2 rfl ?_
      refine j_callV E [.int v2] [] (c_X11_climbAllTo (gL G) (gD G) (gY G) v0 v2 Z I L _ hZ kv0 h) (gwV W_589 W_590 W_591 W_28 W_588) rfl ⟨rfl, fy_X11_climbAllTo⟩ ⟨by decide, by decide⟩ (c := 11) rfl (by decide) kv0 rfl rfl (Nat.le_of_ble_eq_true rfl) ⟨Nat.zero_le _, Nat.zero_le _⟩ dX11_haggle_66 (fun v5 Z6 I7 L8 q9 => ?_)
      obtain ⟨yZ6, hZ6, rfl, h⟩ := q9
      have hZ := hZ6
      have hx : jext Z0 Z6 := jext_trans hx yZ6
      have k10 := (yZ6 _ _ kv0).1
      show jJ G 5 69 [(0, .ref v0), (1, .int v1), (2, .int v2)] [] Z6 I7 L8 0 0
      refine j_aload_n E dX11_haggle_69 0 rfl ?_
      refine j_iload_n E dX11_haggle_70 2 rfl ?_
      refine j_callV E [.int v2] [] (c_X11_weigh (gL G) (gD G) (gY G) v0 v2 Z6 I7 L8 _ hZ k10 h) (gwV W_563 W_564 W_565 W_28 W_562) rfl ⟨rfl, fy_X11_weigh⟩ ⟨by decide, by decide⟩ (c := 11) rfl (by decide) k10 rfl rfl (Nat.le_of_ble_eq_true rfl) ⟨Nat.zero_le _, Nat.zero_le _⟩ dX11_haggle_71 (fun v11 Z12 I13 L14 q15 => ?_)
      obtain ⟨rfl, rfl, h⟩ := q15
      show jJ G 5 74 [(0, .ref v0), (1, .int v1), (2, .int v2)] [] Z6 I13 L14 0 0
      refine j_aload_n E dX11_haggle_74 0 rfl ?_
      refine j_callV E [] [] (c_X11_mostPaid (gL G) (gD G) (gY G) v0 Z6 I13 L14 _ hZ k10 h) (gwV W_583 W_584 W_585 W_28 W_582) rfl ⟨rfl, fy_X11_mostPaid⟩ ⟨by decide, by decide⟩ (c := 11) rfl (by decide) k10 rfl rfl (Nat.le_of_ble_eq_true rfl) ⟨Nat.zero_le _, Nat.zero_le _⟩ dX11_haggle_75 (fun v16 Z17 I18 L19 q20 => ?_)
      obtain ⟨rfl, r21, rfl, h⟩ := q20
      show jJ G 5 78 [(0, .ref v0), (1, .int v1), (2, .int v2)] [.int r21] Z6 I18 L19 0 0
      refine j_istore_n E 3 [(3, .int r21), (0, .ref v0), (1, .int v1), (2, .int v2)] dX11_haggle_78 rfl (by decide) rfl ?_
      refine j_aload_n E dX11_haggle_79 1 rfl ?_
      obtain ⟨b22, eb22, kb22⟩ := sh_o hZ k10 (j := 2) (k := 8) rfl
      have h := h b22 eb22
      refine j_getr E 11 2 rfl rfl (by decide) (by decide) (iw iT_11) rfl rfl (tw W_438) k10 eb22 dX11_haggle_80 ?_
      obtain ⟨b23, eb23, kb23, lb23⟩ := sh_f hZ kb22 (j := 2) (k := 14) (m := 24) rfl
      have h := h b23 eb23
      refine j_getrN E 8 2 rfl rfl (by decide) (by decide) (iw iT_8) rfl rfl (nw_8_2_X11_154) kb22 eb23 dX11_haggle_83 ?_
      refine j_iload_n E dX11_haggle_86 3 rfl ?_
      obtain ⟨o24, h⟩ := h
      refine j_iald E kb23 (by rw [lb23]; exact o24) dX11_haggle_87 ?_
      refine j_topi (fun x25 ex25 => ?_)
      have h := h x25 ex25
      refine j_istore E 4 [(4, .int x25), (3, .int r21), (0, .ref v0), (1, .int v1), (2, .int v2)] dX11_haggle_88 (by decide) rfl ?_
      refine j_iload E dX11_haggle_90 0 rfl ?_
      refine j_callS E [.int x25] [] (c_X11_isAsked (gL G) (gD G) (gY G) x25 Z6 I18 L19 _ hZ  h) (gwS W_581 W_345 W_28 W_344) rfl fy_X11_isAsked ⟨by decide, by decide⟩ rfl rfl (Nat.le_of_ble_eq_true rfl) ⟨Nat.zero_le _, Nat.zero_le _⟩ dX11_haggle_92 (fun v26 Z27 I28 L29 q30 => ?_)
      obtain ⟨rfl, r31, rfl, zr31, h⟩ := q30
      show jJ G 5 95 [(4, .int x25), (3, .int r21), (0, .ref v0), (1, .int v1), (2, .int v2)] [.int r31] Z6 I28 L29 0 0
      refine j_if_eq E 131 dX11_haggle_95 (by decide) (fun c32 => ?_) (fun c32 => ?_)
      · have h := h.1 c32
        refine j_sub [2, 3, 4] rfl ?_
        exact m_X11_haggle_b131 E K53 hK53 v0 v1 v2 Z6 I28 L29 hZ hx k10 h
      · have h := h.2 c32
        refine j_aload_n E dX11_haggle_98 2 rfl ?_
        obtain ⟨b33, eb33, kb33, lb33⟩ := sh_f hZ k10 (j := 13) (k := 14) (m := 21) rfl
        have h := h b33 eb33
        refine j_getr E 11 13 rfl rfl (by decide) (by decide) (iw iT_11) rfl rfl (tw W_556) k10 eb33 dX11_haggle_99 ?_
        refine j_iload_n E dX11_haggle_102 1 rfl ?_
        obtain ⟨o34, h⟩ := h
        refine j_iald E kb33 (by rw [lb33]; exact o34) dX11_haggle_103 ?_
        refine j_aload_n E dX11_haggle_104 2 rfl ?_
        obtain ⟨b35, eb35, kb35, lb35⟩ := sh_f hZ k10 (j := 13) (k := 14) (m := 21) rfl
        have h := h b35 eb35
        refine j_getr E 11 13 rfl rfl (by decide) (by decide) (iw iT_11) rfl rfl (tw W_556) k10 eb35 dX11_haggle_105 ?_
        refine j_iload E dX11_haggle_108 0 rfl ?_
        obtain ⟨o36, h⟩ := h
        refine j_iald E kb35 (by rw [lb35]; exact o36) dX11_haggle_110 ?_
        refine j_icmp_le E 131 dX11_haggle_111 (by decide) (fun c37 => ?_) (fun c37 => ?_)
        · have h := h.1 c37
          refine j_sub [2, 3, 4] rfl ?_
          exact m_X11_haggle_b131 E K53 hK53 v0 v1 v2 Z6 I28 L29 hZ hx k10 h
        · have h := h.2 c37
          refine j_iconst E (v := 1) dX11_haggle_114 (by decide) ?_
          refine j_istore_n E 1 [(1, .int (1 : Int32)), (4, .int x25), (3, .int r21), (0, .ref v0), (2, .int v2)] dX11_haggle_115 rfl (by decide) rfl ?_
          refine j_aload_n E dX11_haggle_116 3 rfl ?_
          obtain ⟨b38, eb38, kb38⟩ := sh_o hZ k10 (j := 2) (k := 8) rfl
          have h := h b38 eb38
          refine j_getr E 11 2 rfl rfl (by decide) (by decide) (iw iT_11) rfl rfl (tw W_438) k10 eb38 dX11_haggle_117 ?_
          obtain ⟨b39, eb39, kb39, lb39⟩ := sh_f hZ kb38 (j := 2) (k := 14) (m := 24) rfl
          have h := h b39 eb39
          refine j_getrN E 8 2 rfl rfl (by decide) (by decide) (iw iT_8) rfl rfl (nw_8_2_X11_154) kb38 eb39 dX11_haggle_120 ?_
          refine j_iload_n E dX11_haggle_123 4 rfl ?_
          refine j_iload_n E dX11_haggle_124 2 rfl ?_
          obtain ⟨o40, h⟩ := h
          refine j_iast E kb39 (by rw [lb39]; exact o40) dX11_haggle_125 ?_
          refine j_nmI (fun I41 eI41 => ?_)
          have h := h I41 eI41
          refine j_aload_n E dX11_haggle_126 3 rfl ?_
          refine j_iload_n E dX11_haggle_127 4 rfl ?_
          refine j_callV E [.int v2] [] (c_X11_measureAllAt (gL G) (gD G) (gY G) v0 v2 Z6 I41 L29 _ hZ k10 h) (gwV W_593 W_594 W_595 W_28 W_592) rfl ⟨rfl, fy_X11_measureAllAt⟩ ⟨by decide, by decide⟩ (c := 11) rfl (by decide) k10 rfl rfl (Nat.le_of_ble_eq_true rfl) ⟨Nat.zero_le _, Nat.zero_le _⟩ dX11_haggle_128 (fun v42 Z43 I44 L45 q46 => ?_)
          obtain ⟨rfl, rfl, h⟩ := q46
          show jJ G 5 131 [(1, .int (1 : Int32)), (4, .int x25), (3, .int r21), (0, .ref v0), (2, .int v2)] [] Z6 I44 L45 0 0
          refine j_sub [3, 0, 4] rfl ?_
          exact m_X11_haggle_b131 E K53 hK53 v0 (1 : Int32) v2 Z6 I44 L45 hZ hx k10 h
set_option maxRecDepth 100000 in
def f_X11_haggle_b45 (K4 : Nat → Int32 → Int32 → jZ → jI → jL → Prop) (Q : Int32 → jZ → jI → jL → Prop) (v0 : Nat) (v1 : Int32) (v2 : Int32) (Z : jZ) (I : jI) (L : jL) : Prop := (∀ x47 : Int32, x47 = v2 + 1 → K4 v0 v1 x47 Z I L)
set_option maxHeartbeats 4000000 in
set_option maxRecDepth 100000 in
theorem m_X11_haggle_b45 {G : jG} {Z0 : jZ} {Q : Int32 → jZ → jI → jL → Prop} (E : jE G cX11_haggle RX11 w_X11_haggle 5 (some .boolean) { frames := 6, cells := 0, slots := 0, locals := 160 } (xrtZ Z0 Q)) (K4 : Nat → Int32 → Int32 → jZ → jI → jL → Prop) (hK4 : ∀ (v0 : Nat) (v1 : Int32) (v2 : Int32) (Z : jZ) (I : jI) (L : jL), SH Z → jext Z0 Z → jk Z v0 11 → K4 v0 v1 v2 Z I L → jJ G 5 4 [(0, .ref v0), (1, .int v1), (2, .int v2)] [] Z I L 0 0) (v0 : Nat) (v1 : Int32) (v2 : Int32) (Z : jZ) (I : jI) (L : jL) (hZ : SH Z) (hx : jext Z0 Z) (kv0 : jk Z v0 11) (h : f_X11_haggle_b45 K4 Q v0 v1 v2 Z I L) : jJ G 5 45 [(0, .ref v0), (1, .int v1), (2, .int v2)] [] Z I L 0 0 := by
  obtain ⟨x47, ex47⟩ : ∃ y : Int32, y = v2 + 1 := ⟨_, rfl⟩
  have h := h x47 ex47
  refine j_iinc E x47 [(2, .int x47), (0, .ref v0), (1, .int v1)] dX11_haggle_45 2 rfl (by rw [ex47]; rfl) (by decide) rfl ?_
  refine j_goto E 4 dX11_haggle_48 (by decide) ?_
  refine j_sub [1, 2, 0] rfl ?_
  exact hK4 v0 v1 x47 Z I L hZ hx kv0 h
set_option maxRecDepth 100000 in
def f_X11_haggle_L4  (Q : Int32 → jZ → jI → jL → Prop) : Nat → Nat → Int32 → Int32 → jZ → jI → jL → Prop
  | 0 => fun _ _ _ _ _ _ => False
  | n + 1 => fun v0 v1 v2 Z I L => (((I v0 4) ≤ v2 → (∃ m53 : Nat, f_X11_haggle_L53  Q m53 v0 v1 (0 : Int32) Z I L)) ∧ (¬ ((I v0 4) ≤ v2) → (f_X11_find v0 v2 Z I L (fun r55 I52 L53 => ((r55 = none → f_X11_haggle_b45 (f_X11_haggle_L4 Q n) Q v0 v1 v2 Z I52 L53) ∧ (∀ b56 : Nat, r55 = some b56 → (∀ b58 : Nat, jr Z b56 8 = some b58 → (f_X6_lay b58 (I52 b56 3) (I52 b56 4) (-1 : Int32) Z I52 L53 (fun I61 L62 => (∀ b64 : Nat, jr Z b56 8 = some b64 → (f_X6_survey b64 Z I61 L62 (fun Z66 I67 L68 => f_X11_haggle_b45 (f_X11_haggle_L4 Q n) Q v0 v1 v2 Z66 I67 L68))))))))))))
set_option maxHeartbeats 4000000 in
set_option maxRecDepth 100000 in
theorem m_X11_haggle_L4 {G : jG} {Z0 : jZ} {Q : Int32 → jZ → jI → jL → Prop} (E : jE G cX11_haggle RX11 w_X11_haggle 5 (some .boolean) { frames := 6, cells := 0, slots := 0, locals := 160 } (xrtZ Z0 Q))  : ∀ (n : Nat) (v0 : Nat) (v1 : Int32) (v2 : Int32) (Z : jZ) (I : jI) (L : jL), SH Z → jext Z0 Z → jk Z v0 11 → f_X11_haggle_L4  Q n v0 v1 v2 Z I L → jJ G 5 4 [(0, .ref v0), (1, .int v1), (2, .int v2)] [] Z I L 0 0 := by
  intro n
  induction n with
  | zero => intro v0 v1 v2 Z I L _ _ _ h; exact h.elim
  | succ n ih =>
    intro v0 v1 v2 Z I L hZ hx kv0 h
    have h : (((I v0 4) ≤ v2 → (∃ m53 : Nat, f_X11_haggle_L53  Q m53 v0 v1 (0 : Int32) Z I L)) ∧ (¬ ((I v0 4) ≤ v2) → (f_X11_find v0 v2 Z I L (fun r55 I52 L53 => ((r55 = none → f_X11_haggle_b45 (f_X11_haggle_L4 Q n) Q v0 v1 v2 Z I52 L53) ∧ (∀ b56 : Nat, r55 = some b56 → (∀ b58 : Nat, jr Z b56 8 = some b58 → (f_X6_lay b58 (I52 b56 3) (I52 b56 4) (-1 : Int32) Z I52 L53 (fun I61 L62 => (∀ b64 : Nat, jr Z b56 8 = some b64 → (f_X6_survey b64 Z I61 L62 (fun Z66 I67 L68 => f_X11_haggle_b45 (f_X11_haggle_L4 Q n) Q v0 v1 v2 Z66 I67 L68)))))))))))) := h
    obtain ⟨K4, eK4⟩ : ∃ K : Nat → Int32 → Int32 → jZ → jI → jL → Prop, K = f_X11_haggle_L4  Q n := ⟨_, rfl⟩
    have hK4 := ih
    clear eK4 K4
    generalize f_X11_haggle_L4  Q n = K4 at hK4 h
    refine j_iload_n E dX11_haggle_4 2 rfl ?_
    refine j_aload_n E dX11_haggle_5 0 rfl ?_
    refine j_geti E 11 4 rfl rfl (by decide) (by decide) (iw iT_11) rfl rfl (tw W_415) kv0 dX11_haggle_6 ?_
    refine j_icmp_ge E 51 dX11_haggle_9 (by decide) (fun c48 => ?_) (fun c48 => ?_)
    · have h := h.1 c48
      refine j_iconst E (v := 0) dX11_haggle_51 (by decide) ?_
      refine j_istore_n E 2 [(2, .int (0 : Int32)), (0, .ref v0), (1, .int v1)] dX11_haggle_52 rfl (by decide) rfl ?_
      obtain ⟨n49, h⟩ := h
      refine j_sub [1, 2, 0] rfl ?_
      exact m_X11_haggle_L53 E  n49 v0 v1 (0 : Int32) Z I L hZ hx kv0 h
    · have h := h.2 c48
      refine j_aload_n E dX11_haggle_12 0 rfl ?_
      refine j_iload_n E dX11_haggle_13 2 rfl ?_
      refine j_callV E [.int v2] [] (c_X11_find (gL G) (gD G) (gY G) v0 v2 Z I L _ hZ kv0 h) (gwV W_421 W_422 W_423 W_28 W_420) rfl ⟨rfl, fy_X11_find⟩ ⟨by decide, by decide⟩ (c := 11) rfl (by decide) kv0 rfl rfl (Nat.le_of_ble_eq_true rfl) ⟨Nat.zero_le _, Nat.zero_le _⟩ dX11_haggle_14 (fun v50 Z51 I52 L53 q54 => ?_)
      obtain ⟨rfl, r55, rfl, zr55, h⟩ := q54
      show jJ G 5 17 [(0, .ref v0), (1, .int v1), (2, .int v2)] (va_rf r55 :: []) Z I52 L53 0 0
      rcases c57 : r55 with _ | b56
      · have h := h.1 c57
        refine j_rfN rfl ?_
        refine j_astore_nN E 3 [(3, .null), (0, .ref v0), (1, .int v1), (2, .int v2)] dX11_haggle_17 rfl (by decide) rfl ?_
        refine j_aload_nN E dX11_haggle_18 0 rfl ?_
        refine j_ifnullN E 45 dX11_haggle_19 (by decide) ?_
        refine j_sub [1, 2, 3] rfl ?_
        exact m_X11_haggle_b45 E K4 hK4 v0 v1 v2 Z I52 L53 hZ hx kv0 h
      · have h := h.2 b56 c57
        have kb56 := zr55 b56 c57
        refine j_rfS rfl ?_
        refine j_astore_n E 3 [(3, .ref b56), (0, .ref v0), (1, .int v1), (2, .int v2)] dX11_haggle_17 rfl (by decide) rfl ?_
        refine j_aload_n E dX11_haggle_18 0 rfl ?_
        refine j_ifnull E dX11_haggle_19 ?_
        refine j_aload_n E dX11_haggle_22 0 rfl ?_
        obtain ⟨b58, eb58, kb58⟩ := sh_o hZ kb56 (j := 8) (k := 6) rfl
        have h := h b58 eb58
        refine j_getrN E 5 8 rfl rfl (by decide) (by decide) (iw iT_5) rfl rfl (nw_5_8_X11_263) kb56 eb58 dX11_haggle_23 ?_
        refine j_aload_n E dX11_haggle_26 0 rfl ?_
        refine j_getiN E 5 3 rfl rfl (by decide) (by decide) (iw iT_5) rfl rfl (nw_5_3_X11_213) kb56 dX11_haggle_27 ?_
        refine j_aload_n E dX11_haggle_30 0 rfl ?_
        refine j_getiN E 5 4 rfl rfl (by decide) (by decide) (iw iT_5) rfl rfl (nw_5_4_X11_196) kb56 dX11_haggle_31 ?_
        refine j_iconst E (v := -1) dX11_haggle_34 (by decide) ?_
        refine j_callV E [.int (I52 b56 3), .int (I52 b56 4), .int (-1 : Int32)] [] (c_X6_lay (gL G) (gD G) (gY G) b58 (I52 b56 3) (I52 b56 4) (-1 : Int32) Z I52 L53 _ hZ kb58 h) (gwV W_516 W_517 W_518 W_21 W_515) rfl ⟨rfl, fy_X6_lay⟩ ⟨by decide, by decide⟩ (c := 6) rfl (by decide) kb58 rfl rfl (Nat.le_of_ble_eq_true rfl) ⟨Nat.zero_le _, Nat.zero_le _⟩ dX11_haggle_35 (fun v59 Z60 I61 L62 q63 => ?_)
        obtain ⟨rfl, rfl, h⟩ := q63
        show jJ G 5 38 [(3, .ref b56), (0, .ref v0), (1, .int v1), (2, .int v2)] [] Z I61 L62 0 0
        refine j_aload_n E dX11_haggle_38 0 rfl ?_
        obtain ⟨b64, eb64, kb64⟩ := sh_o hZ kb56 (j := 8) (k := 6) rfl
        have h := h b64 eb64
        refine j_getrN E 5 8 rfl rfl (by decide) (by decide) (iw iT_5) rfl rfl (nw_5_8_X11_263) kb56 eb64 dX11_haggle_39 ?_
        refine j_callV E [] [] (c_X6_survey (gL G) (gD G) (gY G) b64 Z I61 L62 _ hZ kb64 h) (gwV W_567 W_568 W_569 W_21 W_566) rfl ⟨rfl, fy_X6_survey⟩ ⟨by decide, by decide⟩ (c := 6) rfl (by decide) kb64 rfl rfl (Nat.le_of_ble_eq_true rfl) ⟨Nat.zero_le _, Nat.zero_le _⟩ dX11_haggle_42 (fun v65 Z66 I67 L68 q69 => ?_)
        obtain ⟨yZ66, hZ66, rfl, h⟩ := q69
        have hZ := hZ66
        have hx : jext Z0 Z66 := jext_trans hx yZ66
        have k70 := (yZ66 _ _ kv0).1
        have k71 := (yZ66 _ _ kb56).1
        show jJ G 5 45 [(3, .ref b56), (0, .ref v0), (1, .int v1), (2, .int v2)] [] Z66 I67 L68 0 0
        refine j_sub [1, 2, 3] rfl ?_
        exact m_X11_haggle_b45 E K4 hK4 v0 v1 v2 Z66 I67 L68 hZ hx k70 h
set_option maxRecDepth 100000 in
def f_X11_haggle (v0 : Nat) (Z : jZ) (I : jI) (L : jL) (Q : Int32 → jZ → jI → jL → Prop) : Prop := (∃ m4 : Nat, f_X11_haggle_L4  Q m4 v0 (0 : Int32) (0 : Int32) Z I L)
set_option maxHeartbeats 4000000 in
set_option maxRecDepth 100000 in
theorem c_X11_haggle (l : Launch) (D : va_G) (cy : jC) (v0 : Nat) (Z : jZ) (I : jI) (L : jL) (Q : Int32 → jZ → jI → jL → Prop) (hZ : SH Z) (kv0 : jk Z v0 11) (h : f_X11_haggle v0 Z I L Q) : jCt l yX11_haggle w_X11_haggle { frames := 6, cells := 0, slots := 0, locals := 160 } D cy [.ref v0] Z I L (xrtZ Z Q) := by
  refine jCt_of (cc := cX11_haggle) (maxL := 5) (ret := (some .boolean)) (by decide +kernel) rfl (Nat.le_of_ble_eq_true rfl) ?_
  intro G eD eY eL E
  subst eD; subst eY; subst eL
  have E : jE G cX11_haggle RX11 w_X11_haggle 5 (some .boolean) { frames := 6, cells := 0, slots := 0, locals := 160 } (xrtZ Z Q) := E
  have hx : jext Z Z := jext_rfl
  show jJ G 5 0 [(0, .ref v0)] [] Z I L 0 0
  refine j_iconst E (v := 0) dX11_haggle_0 (by decide) ?_
  refine j_istore_n E 1 [(1, .int (0 : Int32)), (0, .ref v0)] dX11_haggle_1 rfl (by decide) rfl ?_
  refine j_iconst E (v := 0) dX11_haggle_2 (by decide) ?_
  refine j_istore_n E 2 [(2, .int (0 : Int32)), (1, .int (0 : Int32)), (0, .ref v0)] dX11_haggle_3 rfl (by decide) rfl ?_
  obtain ⟨n72, h⟩ := h
  refine j_sub [2, 1, 0] rfl ?_
  exact m_X11_haggle_L4 E  n72 v0 (0 : Int32) (0 : Int32) Z I L hZ hx kv0 h
set_option maxRecDepth 100000 in
def f_X11_market_b80  (Q : Int32 → jZ → jI → jL → Prop) (v0 : Nat) (v2 : Int32) (s0 : Nat) (s1 : Int64) (Z : jZ) (I : jI) (L : jL) : Prop := (∀ b1 : Nat, jr Z v0 2 = some b1 → (f_X8_sumOfAsks b1 Z I L (fun r7 I4 L5 => (f_X11_tellTwo s0 s1 (r7.toInt64) Z I4 L5 (fun I10 L11 => Q v2 Z I10 L11)))))
set_option maxHeartbeats 4000000 in
set_option maxRecDepth 100000 in
theorem m_X11_market_b80 {G : jG} {Z0 : jZ} {Q : Int32 → jZ → jI → jL → Prop} (E : jE G cX11_market RX11 w_X11_market 5 (some .int) { frames := 7, cells := 0, slots := 0, locals := 184 } (xrtI Z0 Q))  (v0 : Nat) (v2 : Int32) (s0 : Nat) (s1 : Int64) (Z : jZ) (I : jI) (L : jL) (hZ : SH Z) (hx : jext Z0 Z) (kv0 : jk Z v0 11) (ks0 : jk Z s0 11) (h : f_X11_market_b80  Q v0 v2 s0 s1 Z I L) : jJ G 5 80 [(0, .ref v0), (2, .int v2)] [.long s1, .ref s0] Z I L 0 0 := by
  refine j_aload_n E dX11_market_80 0 rfl ?_
  obtain ⟨b1, eb1, kb1⟩ := sh_o hZ kv0 (j := 2) (k := 8) rfl
  have h := h b1 eb1
  refine j_getr E 11 2 rfl rfl (by decide) (by decide) (iw iT_11) rfl rfl (tw W_438) kv0 eb1 dX11_market_81 ?_
  refine j_callV E [] [.long s1, .ref s0] (c_X8_sumOfAsks (gL G) (gD G) (gY G) b1 Z I L _ hZ kb1 h) (gwV W_454 W_455 W_456 W_248 W_453) rfl ⟨rfl, fy_X8_sumOfAsks⟩ ⟨by decide, by decide⟩ (c := 8) rfl (by decide) kb1 rfl rfl (Nat.le_of_ble_eq_true rfl) ⟨Nat.zero_le _, Nat.zero_le _⟩ dX11_market_84 (fun v2 Z3 I4 L5 q6 => ?_)
  obtain ⟨rfl, r7, rfl, h⟩ := q6
  show jJ G 5 87 [(0, .ref v0), (2, .int v2)] [.int r7, .long s1, .ref s0] Z I4 L5 0 0
  refine j_i2l E dX11_market_87 ?_
  refine j_callV E [.long s1, .long (r7.toInt64)] [] (c_X11_tellTwo (gL G) (gD G) (gY G) s0 s1 (r7.toInt64) Z I4 L5 _ hZ ks0 h) (gwV W_485 W_486 W_487 W_28 W_484) rfl ⟨rfl, fy_X11_tellTwo⟩ ⟨by decide, by decide⟩ (c := 11) rfl (by decide) ks0 rfl rfl (Nat.le_of_ble_eq_true rfl) ⟨Nat.zero_le _, Nat.zero_le _⟩ dX11_market_88 (fun v8 Z9 I10 L11 q12 => ?_)
  obtain ⟨rfl, rfl, h⟩ := q12
  show jJ G 5 91 [(0, .ref v0), (2, .int v2)] [] Z I10 L11 0 0
  refine j_iload_n E dX11_market_91 1 rfl ?_
  exact j_ireturn E ⟨hx, hZ, _, rfl, h⟩ (Nat.zero_le _) (Nat.zero_le _) dX11_market_92
set_option maxRecDepth 100000 in
def f_X11_market_b70  (Q : Int32 → jZ → jI → jL → Prop) (v0 : Nat) (v2 : Int32) (v3 : Int32) (Z : jZ) (I : jI) (L : jL) : Prop := ((v3 = 0 → f_X11_market_b80  Q v0 v2 v0 (0 : Int64) Z I L) ∧ (¬ (v3 = 0) → f_X11_market_b80  Q v0 v2 v0 (1 : Int64) Z I L))
set_option maxHeartbeats 4000000 in
set_option maxRecDepth 100000 in
theorem m_X11_market_b70 {G : jG} {Z0 : jZ} {Q : Int32 → jZ → jI → jL → Prop} (E : jE G cX11_market RX11 w_X11_market 5 (some .int) { frames := 7, cells := 0, slots := 0, locals := 184 } (xrtI Z0 Q))  (v0 : Nat) (v2 : Int32) (v3 : Int32) (Z : jZ) (I : jI) (L : jL) (hZ : SH Z) (hx : jext Z0 Z) (kv0 : jk Z v0 11) (h : f_X11_market_b70  Q v0 v2 v3 Z I L) : jJ G 5 70 [(0, .ref v0), (2, .int v2), (3, .int v3)] [] Z I L 0 0 := by
  refine j_aload_n E dX11_market_70 0 rfl ?_
  refine j_iload_n E dX11_market_71 2 rfl ?_
  refine j_if_eq E 79 dX11_market_72 (by decide) (fun c13 => ?_) (fun c13 => ?_)
  · have h := h.1 c13
    refine j_lconst E (v := 0) dX11_market_79 (by decide) ?_
    refine j_sub [0, 1] rfl ?_
    exact m_X11_market_b80 E  v0 v2 v0 (0 : Int64) Z I L hZ hx kv0 kv0 h
  · have h := h.2 c13
    refine j_lconst E (v := 1) dX11_market_75 (by decide) ?_
    refine j_goto E 80 dX11_market_76 (by decide) ?_
    refine j_sub [0, 1] rfl ?_
    exact m_X11_market_b80 E  v0 v2 v0 (1 : Int64) Z I L hZ hx kv0 kv0 h
set_option maxRecDepth 100000 in
def f_X11_market_b62 (K29 : Nat → Int32 → Int32 → Int32 → Int32 → jZ → jI → jL → Prop) (Q : Int32 → jZ → jI → jL → Prop) (v0 : Nat) (v1 : Int32) (v3 : Int32) (v4 : Int32) (s0 : Int32) (s1 : Int32) (Z : jZ) (I : jI) (L : jL) : Prop := (∀ x14 : Int32, x14 = (s0 + s1) → (∀ x15 : Int32, x15 = v4 + 1 → K29 v0 v1 x14 v3 x15 Z I L))
set_option maxHeartbeats 4000000 in
set_option maxRecDepth 100000 in
theorem m_X11_market_b62 {G : jG} {Z0 : jZ} {Q : Int32 → jZ → jI → jL → Prop} (E : jE G cX11_market RX11 w_X11_market 5 (some .int) { frames := 7, cells := 0, slots := 0, locals := 184 } (xrtI Z0 Q)) (K29 : Nat → Int32 → Int32 → Int32 → Int32 → jZ → jI → jL → Prop) (hK29 : ∀ (v0 : Nat) (v1 : Int32) (v2 : Int32) (v3 : Int32) (v4 : Int32) (Z : jZ) (I : jI) (L : jL), SH Z → jext Z0 Z → jk Z v0 11 → K29 v0 v1 v2 v3 v4 Z I L → jJ G 5 29 [(0, .ref v0), (1, .int v1), (2, .int v2), (3, .int v3), (4, .int v4)] [] Z I L 0 0) (v0 : Nat) (v1 : Int32) (v3 : Int32) (v4 : Int32) (s0 : Int32) (s1 : Int32) (Z : jZ) (I : jI) (L : jL) (hZ : SH Z) (hx : jext Z0 Z) (kv0 : jk Z v0 11) (h : f_X11_market_b62 K29 Q v0 v1 v3 v4 s0 s1 Z I L) : jJ G 5 62 [(0, .ref v0), (1, .int v1), (3, .int v3), (4, .int v4)] [.int s1, .int s0] Z I L 0 0 := by
  refine j_iadd E dX11_market_62 ?_
  refine j_topi (fun x14 ex14 => ?_)
  have h := h x14 ex14
  refine j_istore_n E 2 [(2, .int x14), (0, .ref v0), (1, .int v1), (3, .int v3), (4, .int v4)] dX11_market_63 rfl (by decide) rfl ?_
  obtain ⟨x15, ex15⟩ : ∃ y : Int32, y = v4 + 1 := ⟨_, rfl⟩
  have h := h x15 ex15
  refine j_iinc E x15 [(4, .int x15), (2, .int x14), (0, .ref v0), (1, .int v1), (3, .int v3)] dX11_market_64 4 rfl (by rw [ex15]; rfl) (by decide) rfl ?_
  refine j_goto E 29 dX11_market_67 (by decide) ?_
  refine j_sub [2, 3, 1, 4, 0] rfl ?_
  exact hK29 v0 v1 x14 v3 x15 Z I L hZ hx kv0 h
set_option maxRecDepth 100000 in
def f_X11_market_b51 (K29 : Nat → Int32 → Int32 → Int32 → Int32 → jZ → jI → jL → Prop) (Q : Int32 → jZ → jI → jL → Prop) (v0 : Nat) (v1 : Int32) (v2 : Int32) (v4 : Int32) (s0 : Int32) (Z : jZ) (I : jI) (L : jL) : Prop := ((s0 = 0 → f_X11_market_b62 K29 Q v0 v1 s0 v4 v2 (1 : Int32) Z I L) ∧ (¬ (s0 = 0) → f_X11_market_b62 K29 Q v0 v1 s0 v4 v2 (0 : Int32) Z I L))
set_option maxHeartbeats 4000000 in
set_option maxRecDepth 100000 in
theorem m_X11_market_b51 {G : jG} {Z0 : jZ} {Q : Int32 → jZ → jI → jL → Prop} (E : jE G cX11_market RX11 w_X11_market 5 (some .int) { frames := 7, cells := 0, slots := 0, locals := 184 } (xrtI Z0 Q)) (K29 : Nat → Int32 → Int32 → Int32 → Int32 → jZ → jI → jL → Prop) (hK29 : ∀ (v0 : Nat) (v1 : Int32) (v2 : Int32) (v3 : Int32) (v4 : Int32) (Z : jZ) (I : jI) (L : jL), SH Z → jext Z0 Z → jk Z v0 11 → K29 v0 v1 v2 v3 v4 Z I L → jJ G 5 29 [(0, .ref v0), (1, .int v1), (2, .int v2), (3, .int v3), (4, .int v4)] [] Z I L 0 0) (v0 : Nat) (v1 : Int32) (v2 : Int32) (v4 : Int32) (s0 : Int32) (Z : jZ) (I : jI) (L : jL) (hZ : SH Z) (hx : jext Z0 Z) (kv0 : jk Z v0 11) (h : f_X11_market_b51 K29 Q v0 v1 v2 v4 s0 Z I L) : jJ G 5 51 [(0, .ref v0), (1, .int v1), (2, .int v2), (4, .int v4)] [.int s0] Z I L 0 0 := by
  refine j_istore_n E 3 [(3, .int s0), (0, .ref v0), (1, .int v1), (2, .int v2), (4, .int v4)] dX11_market_51 rfl (by decide) rfl ?_
  refine j_iload_n E dX11_market_52 3 rfl ?_
  refine j_iload_n E dX11_market_53 0 rfl ?_
  refine j_if_eq E 61 dX11_market_54 (by decide) (fun c16 => ?_) (fun c16 => ?_)
  · have h := h.1 c16
    refine j_iconst E (v := 1) dX11_market_61 (by decide) ?_
    refine j_sub [1, 2, 0, 4] rfl ?_
    exact m_X11_market_b62 E K29 hK29 v0 v1 s0 v4 v2 (1 : Int32) Z I L hZ hx kv0 h
  · have h := h.2 c16
    refine j_iconst E (v := 0) dX11_market_57 (by decide) ?_
    refine j_goto E 62 dX11_market_58 (by decide) ?_
    refine j_sub [1, 2, 0, 4] rfl ?_
    exact m_X11_market_b62 E K29 hK29 v0 v1 s0 v4 v2 (0 : Int32) Z I L hZ hx kv0 h
set_option maxRecDepth 100000 in
def f_X11_market_L29  (Q : Int32 → jZ → jI → jL → Prop) : Nat → Nat → Int32 → Int32 → Int32 → Int32 → jZ → jI → jL → Prop
  | 0 => fun _ _ _ _ _ _ _ _ => False
  | n + 1 => fun v0 v1 v2 v3 v4 Z I L => ((v1 ≤ v4 → f_X11_market_b70  Q v0 v2 v3 Z I L) ∧ (¬ (v1 ≤ v4) → ((¬ v3 = 0 → f_X11_market_b70  Q v0 v2 v3 Z I L) ∧ (v3 = 0 → (f_X11_haggle v0 Z I L (fun r24 Z20 I21 L22 => ((¬ r24 = 0 → f_X11_market_b51 (f_X11_market_L29 Q n) Q v0 v1 v2 v4 (0 : Int32) Z20 I21 L22) ∧ (r24 = 0 → f_X11_market_b51 (f_X11_market_L29 Q n) Q v0 v1 v2 v4 (1 : Int32) Z20 I21 L22))))))))
set_option maxHeartbeats 4000000 in
set_option maxRecDepth 100000 in
theorem m_X11_market_L29 {G : jG} {Z0 : jZ} {Q : Int32 → jZ → jI → jL → Prop} (E : jE G cX11_market RX11 w_X11_market 5 (some .int) { frames := 7, cells := 0, slots := 0, locals := 184 } (xrtI Z0 Q))  : ∀ (n : Nat) (v0 : Nat) (v1 : Int32) (v2 : Int32) (v3 : Int32) (v4 : Int32) (Z : jZ) (I : jI) (L : jL), SH Z → jext Z0 Z → jk Z v0 11 → f_X11_market_L29  Q n v0 v1 v2 v3 v4 Z I L → jJ G 5 29 [(0, .ref v0), (1, .int v1), (2, .int v2), (3, .int v3), (4, .int v4)] [] Z I L 0 0 := by
  intro n
  induction n with
  | zero => intro v0 v1 v2 v3 v4 Z I L _ _ _ h; exact h.elim
  | succ n ih =>
    intro v0 v1 v2 v3 v4 Z I L hZ hx kv0 h
    have h : ((v1 ≤ v4 → f_X11_market_b70  Q v0 v2 v3 Z I L) ∧ (¬ (v1 ≤ v4) → ((¬ v3 = 0 → f_X11_market_b70  Q v0 v2 v3 Z I L) ∧ (v3 = 0 → (f_X11_haggle v0 Z I L (fun r24 Z20 I21 L22 => ((¬ r24 = 0 → f_X11_market_b51 (f_X11_market_L29 Q n) Q v0 v1 v2 v4 (0 : Int32) Z20 I21 L22) ∧ (r24 = 0 → f_X11_market_b51 (f_X11_market_L29 Q n) Q v0 v1 v2 v4 (1 : Int32) Z20 I21 L22)))))))) := h
    obtain ⟨K29, eK29⟩ : ∃ K : Nat → Int32 → Int32 → Int32 → Int32 → jZ → jI → jL → Prop, K = f_X11_market_L29  Q n := ⟨_, rfl⟩
    have hK29 := ih
    clear eK29 K29
    generalize f_X11_market_L29  Q n = K29 at hK29 h
    refine j_iload E dX11_market_29 4 rfl ?_
    refine j_iload_n E dX11_market_31 1 rfl ?_
    refine j_icmp_ge E 70 dX11_market_32 (by decide) (fun c17 => ?_) (fun c17 => ?_)
    · have h := h.1 c17
      refine j_sub [0, 2, 3] rfl ?_
      exact m_X11_market_b70 E  v0 v2 v3 Z I L hZ hx kv0 h
    · have h := h.2 c17
      refine j_iload_n E dX11_market_35 3 rfl ?_
      refine j_if_ne E 70 dX11_market_36 (by decide) (fun c18 => ?_) (fun c18 => ?_)
      · have h := h.1 c18
        refine j_sub [0, 2, 3] rfl ?_
        exact m_X11_market_b70 E  v0 v2 v3 Z I L hZ hx kv0 h
      · have h := h.2 c18
        refine j_aload_n E dX11_market_39 0 rfl ?_
        refine j_callV E [] [] (c_X11_haggle (gL G) (gD G) (gY G) v0 Z I L _ hZ kv0 h) (gwV W_597 W_598 W_599 W_28 W_596) rfl ⟨rfl, fy_X11_haggle⟩ ⟨by decide, by decide⟩ (c := 11) rfl (by decide) kv0 rfl rfl (Nat.le_of_ble_eq_true rfl) ⟨Nat.zero_le _, Nat.zero_le _⟩ dX11_market_40 (fun v19 Z20 I21 L22 q23 => ?_)
        obtain ⟨yZ20, hZ20, r24, rfl, zr24, h⟩ := q23
        have hZ := hZ20
        have hx : jext Z0 Z20 := jext_trans hx yZ20
        have k25 := (yZ20 _ _ kv0).1
        show jJ G 5 43 [(0, .ref v0), (1, .int v1), (2, .int v2), (3, .int v3), (4, .int v4)] [.int r24] Z20 I21 L22 0 0
        refine j_if_ne E 50 dX11_market_43 (by decide) (fun c26 => ?_) (fun c26 => ?_)
        · have h := h.1 c26
          refine j_iconst E (v := 0) dX11_market_50 (by decide) ?_
          refine j_sub [0, 1, 2, 4] rfl ?_
          exact m_X11_market_b51 E K29 hK29 v0 v1 v2 v4 (0 : Int32) Z20 I21 L22 hZ hx k25 h
        · have h := h.2 c26
          refine j_iconst E (v := 1) dX11_market_46 (by decide) ?_
          refine j_goto E 51 dX11_market_47 (by decide) ?_
          refine j_sub [0, 1, 2, 4] rfl ?_
          exact m_X11_market_b51 E K29 hK29 v0 v1 v2 v4 (1 : Int32) Z20 I21 L22 hZ hx k25 h
set_option maxRecDepth 100000 in
def f_X11_market (v0 : Nat) (v1 : Int32) (Z : jZ) (I : jI) (L : jL) (Q : Int32 → jZ → jI → jL → Prop) : Prop := ((v1 < (1 : Int32) → Q (-1 : Int32) Z I L) ∧ (¬ (v1 < (1 : Int32)) → (((3 : Int32) < v1 → Q (-1 : Int32) Z I L) ∧ (¬ ((3 : Int32) < v1) → (∀ b29 : Nat, jr Z v0 2 = some b29 → ((¬ (I b29 9) = 0 → (∃ m29 : Nat, f_X11_market_L29  Q m29 v0 v1 (0 : Int32) (0 : Int32) (0 : Int32) Z I L)) ∧ ((I b29 9) = 0 → Q (-1 : Int32) Z I L)))))))
set_option maxHeartbeats 4000000 in
set_option maxRecDepth 100000 in
theorem c_X11_market (l : Launch) (D : va_G) (cy : jC) (v0 : Nat) (v1 : Int32) (Z : jZ) (I : jI) (L : jL) (Q : Int32 → jZ → jI → jL → Prop) (hZ : SH Z) (kv0 : jk Z v0 11) (h : f_X11_market v0 v1 Z I L Q) : jCt l yX11_market w_X11_market { frames := 7, cells := 0, slots := 0, locals := 184 } D cy [.ref v0, .int v1] Z I L (xrtI Z Q) := by
  refine jCt_of (cc := cX11_market) (maxL := 5) (ret := (some .int)) (by decide +kernel) rfl (Nat.le_of_ble_eq_true rfl) ?_
  intro G eD eY eL E
  subst eD; subst eY; subst eL
  have E : jE G cX11_market RX11 w_X11_market 5 (some .int) { frames := 7, cells := 0, slots := 0, locals := 184 } (xrtI Z Q) := E
  have hx : jext Z Z := jext_rfl
  show jJ G 5 0 [(0, .ref v0), (1, .int v1)] [] Z I L 0 0
  refine j_iload_n E dX11_market_0 1 rfl ?_
  refine j_iconst E (v := 1) dX11_market_1 (by decide) ?_
  refine j_icmp_lt E 20 dX11_market_2 (by decide) (fun c27 => ?_) (fun c27 => ?_)
  · have h := h.1 c27
    refine j_iconst E (v := -1) dX11_market_20 (by decide) ?_
    exact j_ireturn E ⟨hx, hZ, _, rfl, h⟩ (Nat.zero_le _) (Nat.zero_le _) dX11_market_21
  · have h := h.2 c27
    refine j_iload_n E dX11_market_5 1 rfl ?_
    refine j_iconst E (v := 3) dX11_market_6 (by decide) ?_
    refine j_icmp_gt E 20 dX11_market_7 (by decide) (fun c28 => ?_) (fun c28 => ?_)
    · have h := h.1 c28
      refine j_iconst E (v := -1) dX11_market_20 (by decide) ?_
      exact j_ireturn E ⟨hx, hZ, _, rfl, h⟩ (Nat.zero_le _) (Nat.zero_le _) dX11_market_21
    · have h := h.2 c28
      refine j_aload_n E dX11_market_10 0 rfl ?_
      obtain ⟨b29, eb29, kb29⟩ := sh_o hZ kv0 (j := 2) (k := 8) rfl
      have h := h b29 eb29
      refine j_getr E 11 2 rfl rfl (by decide) (by decide) (iw iT_11) rfl rfl (tw W_438) kv0 eb29 dX11_market_11 ?_
      refine j_getiN E 8 9 rfl rfl (by decide) (by decide) (iw iT_8) rfl rfl (nw_8_9_X11_172) kb29 dX11_market_14 ?_
      refine j_if_ne E 22 dX11_market_17 (by decide) (fun c30 => ?_) (fun c30 => ?_)
      · have h := h.1 c30
        refine j_iconst E (v := 0) dX11_market_22 (by decide) ?_
        refine j_istore_n E 2 [(2, .int (0 : Int32)), (0, .ref v0), (1, .int v1)] dX11_market_23 rfl (by decide) rfl ?_
        refine j_iconst E (v := 0) dX11_market_24 (by decide) ?_
        refine j_istore_n E 3 [(3, .int (0 : Int32)), (2, .int (0 : Int32)), (0, .ref v0), (1, .int v1)] dX11_market_25 rfl (by decide) rfl ?_
        refine j_iconst E (v := 0) dX11_market_26 (by decide) ?_
        refine j_istore E 4 [(4, .int (0 : Int32)), (3, .int (0 : Int32)), (2, .int (0 : Int32)), (0, .ref v0), (1, .int v1)] dX11_market_27 (by decide) rfl ?_
        obtain ⟨n31, h⟩ := h
        refine j_sub [3, 4, 2, 1, 0] rfl ?_
        exact m_X11_market_L29 E  n31 v0 v1 (0 : Int32) (0 : Int32) (0 : Int32) Z I L hZ hx kv0 h
      · have h := h.2 c30
        refine j_iconst E (v := -1) dX11_market_20 (by decide) ?_
        exact j_ireturn E ⟨hx, hZ, _, rfl, h⟩ (Nat.zero_le _) (Nat.zero_le _) dX11_market_21
set_option maxRecDepth 100000 in
def f_X11_parts (v0 : Nat) (v1 : Int32) (v2 : Int32) (Z : jZ) (I : jI) (L : jL) (Q : Int32 → jI → jL → Prop) : Prop := (∀ b1 : Nat, jr Z v0 2 = some b1 → (f_X8_has b1 v1 Z I L (fun r7 I4 L5 => ((r7 = 0 → Q (-1 : Int32) I4 L5) ∧ (¬ (r7 = 0) → (f_X11_isFamily v2 Z I4 L5 (fun r14 I11 L12 => ((r14 = 0 → Q (-1 : Int32) I11 L12) ∧ (¬ (r14 = 0) → (∀ b16 : Nat, jr Z v0 2 = some b16 → (∀ b17 : Nat, jr Z b16 4 = some b17 → (f_X4_shareOf b17 v1 v2 Z I11 L12 (fun r23 I20 L21 => Q r23 I20 L21)))))))))))))
set_option maxHeartbeats 4000000 in
set_option maxRecDepth 100000 in
theorem c_X11_parts (l : Launch) (D : va_G) (cy : jC) (v0 : Nat) (v1 : Int32) (v2 : Int32) (Z : jZ) (I : jI) (L : jL) (Q : Int32 → jI → jL → Prop) (hZ : SH Z) (kv0 : jk Z v0 11) (h : f_X11_parts v0 v1 v2 Z I L Q) : jCt l yX11_parts w_X11_parts { frames := 2, cells := 0, slots := 0, locals := 42 } D cy [.ref v0, .int v1, .int v2] Z I L (rtI Z Q) := by
  refine jCt_of (cc := cX11_parts) (maxL := 3) (ret := (some .int)) (by decide +kernel) rfl (Nat.le_of_ble_eq_true rfl) ?_
  intro G eD eY eL E
  subst eD; subst eY; subst eL
  have E : jE G cX11_parts RX11 w_X11_parts 3 (some .int) { frames := 2, cells := 0, slots := 0, locals := 42 } (rtI Z Q) := E
  show jJ G 3 0 [(0, .ref v0), (1, .int v1), (2, .int v2)] [] Z I L 0 0
  refine j_aload_n E dX11_parts_0 0 rfl ?_
  obtain ⟨b1, eb1, kb1⟩ := sh_o hZ kv0 (j := 2) (k := 8) rfl
  have h := h b1 eb1
  refine j_getr E 11 2 rfl rfl (by decide) (by decide) (iw iT_11) rfl rfl (tw W_438) kv0 eb1 dX11_parts_1 ?_
  refine j_iload_n E dX11_parts_4 1 rfl ?_
  refine j_callV E [.int v1] [] (c_X8_has (gL G) (gD G) (gY G) b1 v1 Z I L _ hZ kb1 h) (gwV W_447 W_250 W_251 W_248 W_247) rfl ⟨rfl, fy_X8_has⟩ ⟨by decide, by decide⟩ (c := 8) rfl (by decide) kb1 rfl rfl (Nat.le_of_ble_eq_true rfl) ⟨Nat.zero_le _, Nat.zero_le _⟩ dX11_parts_5 (fun v2 Z3 I4 L5 q6 => ?_)
  obtain ⟨rfl, r7, rfl, zr7, h⟩ := q6
  show jJ G 3 8 [(0, .ref v0), (1, .int v1), (2, .int v2)] [.int r7] Z I4 L5 0 0
  refine j_if_eq E 33 dX11_parts_8 (by decide) (fun c8 => ?_) (fun c8 => ?_)
  · have h := h.1 c8
    refine j_iconst E (v := -1) dX11_parts_33 (by decide) ?_
    exact j_ireturn E ⟨rfl, _, rfl, h⟩ (Nat.zero_le _) (Nat.zero_le _) dX11_parts_34
  · have h := h.2 c8
    refine j_iload_n E dX11_parts_11 2 rfl ?_
    refine j_callS E [.int v2] [] (c_X11_isFamily (gL G) (gD G) (gY G) v2 Z I4 L5 _ hZ  h) (gwS W_460 W_214 W_28 W_213) rfl fy_X11_isFamily ⟨by decide, by decide⟩ rfl rfl (Nat.le_of_ble_eq_true rfl) ⟨Nat.zero_le _, Nat.zero_le _⟩ dX11_parts_12 (fun v9 Z10 I11 L12 q13 => ?_)
    obtain ⟨rfl, r14, rfl, zr14, h⟩ := q13
    show jJ G 3 15 [(0, .ref v0), (1, .int v1), (2, .int v2)] [.int r14] Z I11 L12 0 0
    refine j_if_eq E 33 dX11_parts_15 (by decide) (fun c15 => ?_) (fun c15 => ?_)
    · have h := h.1 c15
      refine j_iconst E (v := -1) dX11_parts_33 (by decide) ?_
      exact j_ireturn E ⟨rfl, _, rfl, h⟩ (Nat.zero_le _) (Nat.zero_le _) dX11_parts_34
    · have h := h.2 c15
      refine j_aload_n E dX11_parts_18 0 rfl ?_
      obtain ⟨b16, eb16, kb16⟩ := sh_o hZ kv0 (j := 2) (k := 8) rfl
      have h := h b16 eb16
      refine j_getr E 11 2 rfl rfl (by decide) (by decide) (iw iT_11) rfl rfl (tw W_438) kv0 eb16 dX11_parts_19 ?_
      obtain ⟨b17, eb17, kb17⟩ := sh_o hZ kb16 (j := 4) (k := 4) rfl
      have h := h b17 eb17
      refine j_getrN E 8 4 rfl rfl (by decide) (by decide) (iw iT_8) rfl rfl (nw_8_4_X11_160) kb16 eb17 dX11_parts_22 ?_
      refine j_iload_n E dX11_parts_25 1 rfl ?_
      refine j_iload_n E dX11_parts_26 2 rfl ?_
      refine j_callV E [.int v1, .int v2] [] (c_X4_shareOf (gL G) (gD G) (gY G) b17 v1 v2 Z I11 L12 _ hZ kb17 h) (gwV W_600 W_218 W_219 W_154 W_216) rfl ⟨rfl, fy_X4_shareOf⟩ ⟨by decide, by decide⟩ (c := 4) rfl (by decide) kb17 rfl rfl (Nat.le_of_ble_eq_true rfl) ⟨Nat.zero_le _, Nat.zero_le _⟩ dX11_parts_27 (fun v18 Z19 I20 L21 q22 => ?_)
      obtain ⟨rfl, r23, rfl, h⟩ := q22
      show jJ G 3 30 [(0, .ref v0), (1, .int v1), (2, .int v2)] [.int r23] Z I20 L21 0 0
      refine j_goto E 34 dX11_parts_30 (by decide) ?_
      exact j_ireturn E ⟨rfl, _, rfl, h⟩ (Nat.zero_le _) (Nat.zero_le _) dX11_parts_34
set_option maxRecDepth 100000 in
def f_X11_sells (v0 : Nat) (v1 : Int32) (v2 : Int32) (v3 : Int32) (v4 : Int32) (v5 : Int32) (Z : jZ) (I : jI) (L : jL) (Q : Int32 → jI → jL → Prop) : Prop := (∀ b1 : Nat, jr Z v0 2 = some b1 → (f_X8_has b1 v1 Z I L (fun r7 I4 L5 => ((r7 = 0 → Q (-1 : Int32) I4 L5) ∧ (¬ (r7 = 0) → (f_X11_isFamily v2 Z I4 L5 (fun r14 I11 L12 => ((r14 = 0 → Q (-1 : Int32) I11 L12) ∧ (¬ (r14 = 0) → (f_X11_isFamily v3 Z I11 L12 (fun r21 I18 L19 => ((r21 = 0 → Q (-1 : Int32) I18 L19) ∧ (¬ (r21 = 0) → ((¬ v2 = v3 → ((v4 < (1 : Int32) → Q (-1 : Int32) I18 L19) ∧ (¬ (v4 < (1 : Int32)) → (((9 : Int32) < v5 → Q (-1 : Int32) I18 L19) ∧ (¬ ((9 : Int32) < v5) → ((v4 ≤ v5 → (∀ b27 : Nat, jr Z v0 2 = some b27 → (∀ b28 : Nat, jr Z b27 4 = some b28 → (f_X4_shareOf b28 v1 v2 Z I18 L19 (fun r34 I31 L32 => (¬ v5 = 0 ∧ (∀ x36 : Int32, x36 = ((r34 * v4) / v5) → ((¬ x36 = 0 → (∀ b38 : Nat, jr Z v0 2 = some b38 → (∀ b39 : Nat, jr Z b38 4 = some b39 → (f_X4_remember b39 Z I31 L32 (fun I42 L43 => (∀ b45 : Nat, jr Z v0 2 = some b45 → (∀ b46 : Nat, jr Z b45 4 = some b46 → (f_X4_move b46 v1 v2 v3 x36 Z I42 L43 (fun I49 L50 => Q x36 I49 L50))))))))) ∧ (x36 = 0 → Q (-1 : Int32) I31 L32))))))))) ∧ (¬ (v4 ≤ v5) → Q (-1 : Int32) I18 L19))))))) ∧ (v2 = v3 → Q (-1 : Int32) I18 L19)))))))))))))))
set_option maxHeartbeats 4000000 in
set_option maxRecDepth 100000 in
theorem c_X11_sells (l : Launch) (D : va_G) (cy : jC) (v0 : Nat) (v1 : Int32) (v2 : Int32) (v3 : Int32) (v4 : Int32) (v5 : Int32) (Z : jZ) (I : jI) (L : jL) (Q : Int32 → jI → jL → Prop) (hZ : SH Z) (kv0 : jk Z v0 11) (h : f_X11_sells v0 v1 v2 v3 v4 v5 Z I L Q) : jCt l yX11_sells w_X11_sells { frames := 2, cells := 0, slots := 0, locals := 69 } D cy [.ref v0, .int v1, .int v2, .int v3, .int v4, .int v5] Z I L (rtI Z Q) := by
  refine jCt_of (cc := cX11_sells) (maxL := 7) (ret := (some .int)) (by decide +kernel) rfl (Nat.le_of_ble_eq_true rfl) ?_
  intro G eD eY eL E
  subst eD; subst eY; subst eL
  have E : jE G cX11_sells RX11 w_X11_sells 7 (some .int) { frames := 2, cells := 0, slots := 0, locals := 69 } (rtI Z Q) := E
  show jJ G 7 0 [(0, .ref v0), (1, .int v1), (2, .int v2), (3, .int v3), (4, .int v4), (5, .int v5)] [] Z I L 0 0
  refine j_aload_n E dX11_sells_0 0 rfl ?_
  obtain ⟨b1, eb1, kb1⟩ := sh_o hZ kv0 (j := 2) (k := 8) rfl
  have h := h b1 eb1
  refine j_getr E 11 2 rfl rfl (by decide) (by decide) (iw iT_11) rfl rfl (tw W_438) kv0 eb1 dX11_sells_1 ?_
  refine j_iload_n E dX11_sells_4 1 rfl ?_
  refine j_callV E [.int v1] [] (c_X8_has (gL G) (gD G) (gY G) b1 v1 Z I L _ hZ kb1 h) (gwV W_447 W_250 W_251 W_248 W_247) rfl ⟨rfl, fy_X8_has⟩ ⟨by decide, by decide⟩ (c := 8) rfl (by decide) kb1 rfl rfl (Nat.le_of_ble_eq_true rfl) ⟨Nat.zero_le _, Nat.zero_le _⟩ dX11_sells_5 (fun v2 Z3 I4 L5 q6 => ?_)
  obtain ⟨rfl, r7, rfl, zr7, h⟩ := q6
  show jJ G 7 8 [(0, .ref v0), (1, .int v1), (2, .int v2), (3, .int v3), (4, .int v4), (5, .int v5)] [.int r7] Z I4 L5 0 0
  refine j_if_eq E 30 dX11_sells_8 (by decide) (fun c8 => ?_) (fun c8 => ?_)
  · have h := h.1 c8
    refine j_iconst E (v := -1) dX11_sells_30 (by decide) ?_
    exact j_ireturn E ⟨rfl, _, rfl, h⟩ (Nat.zero_le _) (Nat.zero_le _) dX11_sells_31
  · have h := h.2 c8
    refine j_iload_n E dX11_sells_11 2 rfl ?_
    refine j_callS E [.int v2] [] (c_X11_isFamily (gL G) (gD G) (gY G) v2 Z I4 L5 _ hZ  h) (gwS W_460 W_214 W_28 W_213) rfl fy_X11_isFamily ⟨by decide, by decide⟩ rfl rfl (Nat.le_of_ble_eq_true rfl) ⟨Nat.zero_le _, Nat.zero_le _⟩ dX11_sells_12 (fun v9 Z10 I11 L12 q13 => ?_)
    obtain ⟨rfl, r14, rfl, zr14, h⟩ := q13
    show jJ G 7 15 [(0, .ref v0), (1, .int v1), (2, .int v2), (3, .int v3), (4, .int v4), (5, .int v5)] [.int r14] Z I11 L12 0 0
    refine j_if_eq E 30 dX11_sells_15 (by decide) (fun c15 => ?_) (fun c15 => ?_)
    · have h := h.1 c15
      refine j_iconst E (v := -1) dX11_sells_30 (by decide) ?_
      exact j_ireturn E ⟨rfl, _, rfl, h⟩ (Nat.zero_le _) (Nat.zero_le _) dX11_sells_31
    · have h := h.2 c15
      refine j_iload_n E dX11_sells_18 3 rfl ?_
      refine j_callS E [.int v3] [] (c_X11_isFamily (gL G) (gD G) (gY G) v3 Z I11 L12 _ hZ  h) (gwS W_460 W_214 W_28 W_213) rfl fy_X11_isFamily ⟨by decide, by decide⟩ rfl rfl (Nat.le_of_ble_eq_true rfl) ⟨Nat.zero_le _, Nat.zero_le _⟩ dX11_sells_19 (fun v16 Z17 I18 L19 q20 => ?_)
      obtain ⟨rfl, r21, rfl, zr21, h⟩ := q20
      show jJ G 7 22 [(0, .ref v0), (1, .int v1), (2, .int v2), (3, .int v3), (4, .int v4), (5, .int v5)] [.int r21] Z I18 L19 0 0
      refine j_if_eq E 30 dX11_sells_22 (by decide) (fun c22 => ?_) (fun c22 => ?_)
      · have h := h.1 c22
        refine j_iconst E (v := -1) dX11_sells_30 (by decide) ?_
        exact j_ireturn E ⟨rfl, _, rfl, h⟩ (Nat.zero_le _) (Nat.zero_le _) dX11_sells_31
      · have h := h.2 c22
        refine j_iload_n E dX11_sells_25 2 rfl ?_
        refine j_iload_n E dX11_sells_26 3 rfl ?_
        refine j_icmp_ne E 32 dX11_sells_27 (by decide) (fun c23 => ?_) (fun c23 => ?_)
        · have h := h.1 c23
          refine j_iload E dX11_sells_32 4 rfl ?_
          refine j_iconst E (v := 1) dX11_sells_34 (by decide) ?_
          refine j_icmp_lt E 52 dX11_sells_35 (by decide) (fun c24 => ?_) (fun c24 => ?_)
          · have h := h.1 c24
            refine j_iconst E (v := -1) dX11_sells_52 (by decide) ?_
            exact j_ireturn E ⟨rfl, _, rfl, h⟩ (Nat.zero_le _) (Nat.zero_le _) dX11_sells_53
          · have h := h.2 c24
            refine j_iload E dX11_sells_38 5 rfl ?_
            refine j_bipush E (v := 9) dX11_sells_40 (by decide) ?_
            refine j_icmp_gt E 52 dX11_sells_42 (by decide) (fun c25 => ?_) (fun c25 => ?_)
            · have h := h.1 c25
              refine j_iconst E (v := -1) dX11_sells_52 (by decide) ?_
              exact j_ireturn E ⟨rfl, _, rfl, h⟩ (Nat.zero_le _) (Nat.zero_le _) dX11_sells_53
            · have h := h.2 c25
              refine j_iload E dX11_sells_45 4 rfl ?_
              refine j_iload E dX11_sells_47 5 rfl ?_
              refine j_icmp_le E 54 dX11_sells_49 (by decide) (fun c26 => ?_) (fun c26 => ?_)
              · have h := h.1 c26
                refine j_aload_n E dX11_sells_54 0 rfl ?_
                obtain ⟨b27, eb27, kb27⟩ := sh_o hZ kv0 (j := 2) (k := 8) rfl
                have h := h b27 eb27
                refine j_getr E 11 2 rfl rfl (by decide) (by decide) (iw iT_11) rfl rfl (tw W_438) kv0 eb27 dX11_sells_55 ?_
                obtain ⟨b28, eb28, kb28⟩ := sh_o hZ kb27 (j := 4) (k := 4) rfl
                have h := h b28 eb28
                refine j_getrN E 8 4 rfl rfl (by decide) (by decide) (iw iT_8) rfl rfl (nw_8_4_X11_160) kb27 eb28 dX11_sells_58 ?_
                refine j_iload_n E dX11_sells_61 1 rfl ?_
                refine j_iload_n E dX11_sells_62 2 rfl ?_
                refine j_callV E [.int v1, .int v2] [] (c_X4_shareOf (gL G) (gD G) (gY G) b28 v1 v2 Z I18 L19 _ hZ kb28 h) (gwV W_600 W_218 W_219 W_154 W_216) rfl ⟨rfl, fy_X4_shareOf⟩ ⟨by decide, by decide⟩ (c := 4) rfl (by decide) kb28 rfl rfl (Nat.le_of_ble_eq_true rfl) ⟨Nat.zero_le _, Nat.zero_le _⟩ dX11_sells_63 (fun v29 Z30 I31 L32 q33 => ?_)
                obtain ⟨rfl, r34, rfl, h⟩ := q33
                show jJ G 7 66 [(0, .ref v0), (1, .int v1), (2, .int v2), (3, .int v3), (4, .int v4), (5, .int v5)] [.int r34] Z I31 L32 0 0
                refine j_iload E dX11_sells_66 4 rfl ?_
                refine j_imul E dX11_sells_68 ?_
                refine j_iload E dX11_sells_69 5 rfl ?_
                obtain ⟨o35, h⟩ := h
                refine j_idiv E dX11_sells_71 o35 ?_
                refine j_topi (fun x36 ex36 => ?_)
                have h := h x36 ex36
                refine j_istore E 6 [(6, .int x36), (0, .ref v0), (1, .int v1), (2, .int v2), (3, .int v3), (4, .int v4), (5, .int v5)] dX11_sells_72 (by decide) rfl ?_
                refine j_iload E dX11_sells_74 0 rfl ?_
                refine j_if_ne E 81 dX11_sells_76 (by decide) (fun c37 => ?_) (fun c37 => ?_)
                · have h := h.1 c37
                  refine j_aload_n E dX11_sells_81 1 rfl ?_
                  obtain ⟨b38, eb38, kb38⟩ := sh_o hZ kv0 (j := 2) (k := 8) rfl
                  have h := h b38 eb38
                  refine j_getr E 11 2 rfl rfl (by decide) (by decide) (iw iT_11) rfl rfl (tw W_438) kv0 eb38 dX11_sells_82 ?_
                  obtain ⟨b39, eb39, kb39⟩ := sh_o hZ kb38 (j := 4) (k := 4) rfl
                  have h := h b39 eb39
                  refine j_getrN E 8 4 rfl rfl (by decide) (by decide) (iw iT_8) rfl rfl (nw_8_4_X11_160) kb38 eb39 dX11_sells_85 ?_
                  refine j_callV E [] [] (c_X4_remember (gL G) (gD G) (gY G) b39 Z I31 L32 _ hZ kb39 h) (gwV W_602 W_603 W_604 W_154 W_601) rfl ⟨rfl, fy_X4_remember⟩ ⟨by decide, by decide⟩ (c := 4) rfl (by decide) kb39 rfl rfl (Nat.le_of_ble_eq_true rfl) ⟨Nat.zero_le _, Nat.zero_le _⟩ dX11_sells_88 (fun v40 Z41 I42 L43 q44 => ?_)
                  obtain ⟨rfl, rfl, h⟩ := q44
                  show jJ G 7 91 [(6, .int x36), (0, .ref v0), (1, .int v1), (2, .int v2), (3, .int v3), (4, .int v4), (5, .int v5)] [] Z I42 L43 0 0
                  refine j_aload_n E dX11_sells_91 1 rfl ?_
                  obtain ⟨b45, eb45, kb45⟩ := sh_o hZ kv0 (j := 2) (k := 8) rfl
                  have h := h b45 eb45
                  refine j_getr E 11 2 rfl rfl (by decide) (by decide) (iw iT_11) rfl rfl (tw W_438) kv0 eb45 dX11_sells_92 ?_
                  obtain ⟨b46, eb46, kb46⟩ := sh_o hZ kb45 (j := 4) (k := 4) rfl
                  have h := h b46 eb46
                  refine j_getrN E 8 4 rfl rfl (by decide) (by decide) (iw iT_8) rfl rfl (nw_8_4_X11_160) kb45 eb46 dX11_sells_95 ?_
                  refine j_iload_n E dX11_sells_98 2 rfl ?_
                  refine j_iload_n E dX11_sells_99 3 rfl ?_
                  refine j_iload_n E dX11_sells_100 4 rfl ?_
                  refine j_iload E dX11_sells_101 0 rfl ?_
                  refine j_callV E [.int v1, .int v2, .int v3, .int x36] [] (c_X4_move (gL G) (gD G) (gY G) b46 v1 v2 v3 x36 Z I42 L43 _ hZ kb46 h) (gwV W_605 W_231 W_232 W_154 W_229) rfl ⟨rfl, fy_X4_move⟩ ⟨by decide, by decide⟩ (c := 4) rfl (by decide) kb46 rfl rfl (Nat.le_of_ble_eq_true rfl) ⟨Nat.zero_le _, Nat.zero_le _⟩ dX11_sells_103 (fun v47 Z48 I49 L50 q51 => ?_)
                  obtain ⟨rfl, rfl, h⟩ := q51
                  show jJ G 7 106 [(6, .int x36), (0, .ref v0), (1, .int v1), (2, .int v2), (3, .int v3), (4, .int v4), (5, .int v5)] [] Z I49 L50 0 0
                  refine j_iload E dX11_sells_106 0 rfl ?_
                  exact j_ireturn E ⟨rfl, _, rfl, h⟩ (Nat.zero_le _) (Nat.zero_le _) dX11_sells_108
                · have h := h.2 c37
                  refine j_iconst E (v := -1) dX11_sells_79 (by decide) ?_
                  exact j_ireturn E ⟨rfl, _, rfl, h⟩ (Nat.zero_le _) (Nat.zero_le _) dX11_sells_80
              · have h := h.2 c26
                refine j_iconst E (v := -1) dX11_sells_52 (by decide) ?_
                exact j_ireturn E ⟨rfl, _, rfl, h⟩ (Nat.zero_le _) (Nat.zero_le _) dX11_sells_53
        · have h := h.2 c23
          refine j_iconst E (v := -1) dX11_sells_30 (by decide) ?_
          exact j_ireturn E ⟨rfl, _, rfl, h⟩ (Nat.zero_le _) (Nat.zero_le _) dX11_sells_31
