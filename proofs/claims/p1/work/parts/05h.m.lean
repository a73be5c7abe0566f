set_option maxRecDepth 100000 in
def f_X12_stairs_L301  (Q : Int32 → jZ → jI → jL → Prop) : Nat → Nat → Int32 → Int32 → jZ → jI → jL → Prop
  | 0 => fun _ _ _ _ _ _ => False
  | n + 1 => fun v0 v1 v3 Z I L => (((I v0 8) ≤ v3 → Q v1 Z I L) ∧ (¬ ((I v0 8) ≤ v3) → (∀ b2 : Nat, jr Z v0 14 = some b2 → (vp_in v3 6 ∧ (∀ I4 : jI, I4 = jpI I b2 v3.toNatClampNeg (-1 : Int32) → (∀ b5 : Nat, jr Z v0 15 = some b5 → (∀ b6 : Nat, jr Z v0 9 = some b6 → (vp_in v3 6 ∧ (vp_in v3 6 ∧ (∀ I9 : jI, I9 = jpI I4 b5 v3.toNatClampNeg (I4 b6 v3.toNatClampNeg) → (∀ b10 : Nat, jr Z v0 16 = some b10 → (∀ b11 : Nat, jr Z v0 10 = some b11 → (vp_in v3 6 ∧ (vp_in v3 6 ∧ (∀ I14 : jI, I14 = jpI I9 b10 v3.toNatClampNeg (I9 b11 v3.toNatClampNeg) → (∀ x15 : Int32, x15 = v3 + 1 → (f_X12_stairs_L301 Q n) v0 v1 x15 Z I14 L))))))))))))))))
set_option maxHeartbeats 4000000 in
set_option maxRecDepth 100000 in
theorem m_X12_stairs_L301 {G : jG} {Z0 : jZ} {Q : Int32 → jZ → jI → jL → Prop} (E : jE G cX12_stairs RX12 w_X12_stairs 5 (some .int) { frames := 4, cells := 0, slots := 0, locals := 95 } (xrtI Z0 Q))  : ∀ (n : Nat) (v0 : Nat) (v1 : Int32) (v3 : Int32) (Z : jZ) (I : jI) (L : jL), SH Z → jext Z0 Z → jk Z v0 12 → f_X12_stairs_L301  Q n v0 v1 v3 Z I L → jJ G 5 301 [(0, .ref v0), (1, .int v1), (3, .int v3)] [] Z I L 0 0 := by
  intro n
  induction n with
  | zero => intro v0 v1 v3 Z I L _ _ _ h; exact h.elim
  | succ n ih =>
    intro v0 v1 v3 Z I L hZ hx kv0 h
    have h : (((I v0 8) ≤ v3 → Q v1 Z I L) ∧ (¬ ((I v0 8) ≤ v3) → (∀ b2 : Nat, jr Z v0 14 = some b2 → (vp_in v3 6 ∧ (∀ I4 : jI, I4 = jpI I b2 v3.toNatClampNeg (-1 : Int32) → (∀ b5 : Nat, jr Z v0 15 = some b5 → (∀ b6 : Nat, jr Z v0 9 = some b6 → (vp_in v3 6 ∧ (vp_in v3 6 ∧ (∀ I9 : jI, I9 = jpI I4 b5 v3.toNatClampNeg (I4 b6 v3.toNatClampNeg) → (∀ b10 : Nat, jr Z v0 16 = some b10 → (∀ b11 : Nat, jr Z v0 10 = some b11 → (vp_in v3 6 ∧ (vp_in v3 6 ∧ (∀ I14 : jI, I14 = jpI I9 b10 v3.toNatClampNeg (I9 b11 v3.toNatClampNeg) → (∀ x15 : Int32, x15 = v3 + 1 → (f_X12_stairs_L301 Q n) v0 v1 x15 Z I14 L)))))))))))))))) := h
    obtain ⟨K301, eK301⟩ : ∃ K : Nat → Int32 → Int32 → jZ → jI → jL → Prop, K = f_X12_stairs_L301  Q n := ⟨_, rfl⟩
    have hK301 := ih
    clear eK301 K301
    generalize f_X12_stairs_L301  Q n = K301 at hK301 h
    refine j_iload_n E dX12_stairs_301 2 rfl ?_
    refine j_aload_n E dX12_stairs_302 0 rfl ?_
    refine j_geti E 12 8 rfl rfl (by decide) (by decide) (iw iT_12) rfl rfl (tw W_682) kv0 dX12_stairs_303 ?_
    refine j_icmp_ge E 346 dX12_stairs_306 (by decide) (fun c1 => ?_) (fun c1 => ?_)
    · have h := h.1 c1
      refine j_iload_n E dX12_stairs_346 1 rfl ?_
      exact j_ireturn E ⟨hx, hZ, _, rfl, h⟩ (Nat.zero_le _) (Nat.zero_le _) dX12_stairs_347
    · have h := h.2 c1
      refine j_aload_n E dX12_stairs_309 0 rfl ?_
      obtain ⟨b2, eb2, kb2, lb2⟩ := sh_f hZ kv0 (j := 14) (k := 14) (m := 6) rfl
      have h := h b2 eb2
      refine j_getr E 12 14 rfl rfl (by decide) (by decide) (iw iT_12) rfl rfl (tw W_716) kv0 eb2 dX12_stairs_310 ?_
      refine j_iload_n E dX12_stairs_313 2 rfl ?_
      refine j_iconst E (v := -1) dX12_stairs_314 (by decide) ?_
      obtain ⟨o3, h⟩ := h
      refine j_iast E kb2 (by rw [lb2]; exact o3) dX12_stairs_315 ?_
      refine j_nmI (fun I4 eI4 => ?_)
      have h := h I4 eI4
      refine j_aload_n E dX12_stairs_316 0 rfl ?_
      obtain ⟨b5, eb5, kb5, lb5⟩ := sh_f hZ kv0 (j := 15) (k := 14) (m := 6) rfl
      have h := h b5 eb5
      refine j_getr E 12 15 rfl rfl (by decide) (by decide) (iw iT_12) rfl rfl (tw W_717) kv0 eb5 dX12_stairs_317 ?_
      refine j_iload_n E dX12_stairs_320 2 rfl ?_
      refine j_aload_n E dX12_stairs_321 0 rfl ?_
      obtain ⟨b6, eb6, kb6, lb6⟩ := sh_f hZ kv0 (j := 9) (k := 14) (m := 6) rfl
      have h := h b6 eb6
      refine j_getr E 12 9 rfl rfl (by decide) (by decide) (iw iT_12) rfl rfl (tw W_718) kv0 eb6 dX12_stairs_322 ?_
      refine j_iload_n E dX12_stairs_325 2 rfl ?_
      obtain ⟨o7, h⟩ := h
      refine j_iald E kb6 (by rw [lb6]; exact o7) dX12_stairs_326 ?_
      obtain ⟨o8, h⟩ := h
      refine j_iast E kb5 (by rw [lb5]; exact o8) dX12_stairs_327 ?_
      refine j_nmI (fun I9 eI9 => ?_)
      have h := h I9 eI9
      refine j_aload_n E dX12_stairs_328 0 rfl ?_
      obtain ⟨b10, eb10, kb10, lb10⟩ := sh_f hZ kv0 (j := 16) (k := 14) (m := 6) rfl
      have h := h b10 eb10
      refine j_getr E 12 16 rfl rfl (by decide) (by decide) (iw iT_12) rfl rfl (tw W_719) kv0 eb10 dX12_stairs_329 ?_
      refine j_iload_n E dX12_stairs_332 2 rfl ?_
      refine j_aload_n E dX12_stairs_333 0 rfl ?_
      obtain ⟨b11, eb11, kb11, lb11⟩ := sh_f hZ kv0 (j := 10) (k := 14) (m := 6) rfl
      have h := h b11 eb11
      refine j_getr E 12 10 rfl rfl (by decide) (by decide) (iw iT_12) rfl rfl (tw W_720) kv0 eb11 dX12_stairs_334 ?_
      refine j_iload_n E dX12_stairs_337 2 rfl ?_
      obtain ⟨o12, h⟩ := h
      refine j_iald E kb11 (by rw [lb11]; exact o12) dX12_stairs_338 ?_
      obtain ⟨o13, h⟩ := h
      refine j_iast E kb10 (by rw [lb10]; exact o13) dX12_stairs_339 ?_
      refine j_nmI (fun I14 eI14 => ?_)
      have h := h I14 eI14
      obtain ⟨x15, ex15⟩ : ∃ y : Int32, y = v3 + 1 := ⟨_, rfl⟩
      have h := h x15 ex15
      refine j_iinc E x15 [(3, .int x15), (0, .ref v0), (1, .int v1)] dX12_stairs_340 2 rfl (by rw [ex15]; rfl) (by decide) rfl ?_
      refine j_goto E 301 dX12_stairs_343 (by decide) ?_
      refine j_sub [1, 2, 0] rfl ?_
      exact hK301 v0 v1 x15 Z I14 L hZ hx kv0 h
set_option maxRecDepth 100000 in
def f_X12_stairs_L280  (Q : Int32 → jZ → jI → jL → Prop) : Nat → Nat → Int32 → Int32 → jZ → jI → jL → Prop
  | 0 => fun _ _ _ _ _ _ => False
  | n + 1 => fun v0 v1 v3 Z I L => (((8 : Int32) ≤ v3 → (∃ m301 : Nat, f_X12_stairs_L301  Q m301 v0 v1 (0 : Int32) Z I L)) ∧ (¬ ((8 : Int32) ≤ v3) → (∀ b18 : Nat, jr Z v0 17 = some b18 → (vp_in v3 8 ∧ (∀ I20 : jI, I20 = jpI I b18 v3.toNatClampNeg (0 : Int32) → (∀ x21 : Int32, x21 = v3 + 1 → (f_X12_stairs_L280 Q n) v0 v1 x21 Z I20 L))))))
set_option maxHeartbeats 4000000 in
set_option maxRecDepth 100000 in
theorem m_X12_stairs_L280 {G : jG} {Z0 : jZ} {Q : Int32 → jZ → jI → jL → Prop} (E : jE G cX12_stairs RX12 w_X12_stairs 5 (some .int) { frames := 4, cells := 0, slots := 0, locals := 95 } (xrtI Z0 Q))  : ∀ (n : Nat) (v0 : Nat) (v1 : Int32) (v3 : Int32) (Z : jZ) (I : jI) (L : jL), SH Z → jext Z0 Z → jk Z v0 12 → f_X12_stairs_L280  Q n v0 v1 v3 Z I L → jJ G 5 280 [(0, .ref v0), (1, .int v1), (3, .int v3)] [] Z I L 0 0 := by
  intro n
  induction n with
  | zero => intro v0 v1 v3 Z I L _ _ _ h; exact h.elim
  | succ n ih =>
    intro v0 v1 v3 Z I L hZ hx kv0 h
    have h : (((8 : Int32) ≤ v3 → (∃ m301 : Nat, f_X12_stairs_L301  Q m301 v0 v1 (0 : Int32) Z I L)) ∧ (¬ ((8 : Int32) ≤ v3) → (∀ b18 : Nat, jr Z v0 17 = some b18 → (vp_in v3 8 ∧ (∀ I20 : jI, I20 = jpI I b18 v3.toNatClampNeg (0 : Int32) → (∀ x21 : Int32, x21 = v3 + 1 → (f_X12_stairs_L280 Q n) v0 v1 x21 Z I20 L)))))) := h
    obtain ⟨K280, eK280⟩ : ∃ K : Nat → Int32 → Int32 → jZ → jI → jL → Prop, K = f_X12_stairs_L280  Q n := ⟨_, rfl⟩
    have hK280 := ih
    clear eK280 K280
    generalize f_X12_stairs_L280  Q n = K280 at hK280 h
    refine j_iload_n E dX12_stairs_280 2 rfl ?_
    refine j_bipush E (v := 8) dX12_stairs_281 (by decide) ?_
    refine j_icmp_ge E 299 dX12_stairs_283 (by decide) (fun c16 => ?_) (fun c16 => ?_)
    · have h := h.1 c16
      refine j_iconst E (v := 0) dX12_stairs_299 (by decide) ?_
      refine j_istore_n E 3 [(3, .int (0 : Int32)), (0, .ref v0), (1, .int v1)] dX12_stairs_300 rfl (by decide) rfl ?_
      obtain ⟨n17, h⟩ := h
      refine j_sub [1, 2, 0] rfl ?_
      exact m_X12_stairs_L301 E  n17 v0 v1 (0 : Int32) Z I L hZ hx kv0 h
    · have h := h.2 c16
      refine j_aload_n E dX12_stairs_286 0 rfl ?_
      obtain ⟨b18, eb18, kb18, lb18⟩ := sh_f hZ kv0 (j := 17) (k := 14) (m := 8) rfl
      have h := h b18 eb18
      refine j_getr E 12 17 rfl rfl (by decide) (by decide) (iw iT_12) rfl rfl (tw W_721) kv0 eb18 dX12_stairs_287 ?_
      refine j_iload_n E dX12_stairs_290 2 rfl ?_
      refine j_iconst E (v := 0) dX12_stairs_291 (by decide) ?_
      obtain ⟨o19, h⟩ := h
      refine j_iast E kb18 (by rw [lb18]; exact o19) dX12_stairs_292 ?_
      refine j_nmI (fun I20 eI20 => ?_)
      have h := h I20 eI20
      obtain ⟨x21, ex21⟩ : ∃ y : Int32, y = v3 + 1 := ⟨_, rfl⟩
      have h := h x21 ex21
      refine j_iinc E x21 [(3, .int x21), (0, .ref v0), (1, .int v1)] dX12_stairs_293 2 rfl (by rw [ex21]; rfl) (by decide) rfl ?_
      refine j_goto E 280 dX12_stairs_296 (by decide) ?_
      refine j_sub [1, 2, 0] rfl ?_
      exact hK280 v0 v1 x21 Z I20 L hZ hx kv0 h
set_option maxRecDepth 100000 in
def f_X12_stairs_b256 (K131 : Nat → Int32 → Int32 → jZ → jI → jL → Prop) (Q : Int32 → jZ → jI → jL → Prop) (v0 : Nat) (v1 : Int32) (v3 : Int32) (s0 : Nat) (s1 : Int32) (s2 : Int32) (Z : jZ) (I : jI) (L : jL) : Prop := (vp_in s1 (jlen Z s0) ∧ (∀ I23 : jI, I23 = jpI I s0 s1.toNatClampNeg (vp_nar .boolean s2) → (∀ x24 : Int32, x24 = v3 + 1 → K131 v0 v1 x24 Z I23 L)))
set_option maxHeartbeats 4000000 in
set_option maxRecDepth 100000 in
theorem m_X12_stairs_b256 {G : jG} {Z0 : jZ} {Q : Int32 → jZ → jI → jL → Prop} (E : jE G cX12_stairs RX12 w_X12_stairs 5 (some .int) { frames := 4, cells := 0, slots := 0, locals := 95 } (xrtI Z0 Q)) (K131 : Nat → Int32 → Int32 → jZ → jI → jL → Prop) (hK131 : ∀ (v0 : Nat) (v1 : Int32) (v3 : Int32) (Z : jZ) (I : jI) (L : jL), SH Z → jext Z0 Z → jk Z v0 12 → K131 v0 v1 v3 Z I L → jJ G 5 131 [(0, .ref v0), (1, .int v1), (3, .int v3)] [] Z I L 0 0) (v0 : Nat) (v1 : Int32) (v3 : Int32) (s0 : Nat) (s1 : Int32) (s2 : Int32) (Z : jZ) (I : jI) (L : jL) (hZ : SH Z) (hx : jext Z0 Z) (kv0 : jk Z v0 12) (ks0 : jk Z s0 16) (h : f_X12_stairs_b256 K131 Q v0 v1 v3 s0 s1 s2 Z I L) : jJ G 5 256 [(0, .ref v0), (1, .int v1), (3, .int v3)] [.int s2, .int s1, .ref s0] Z I L 0 0 := by
  obtain ⟨o22, h⟩ := h
  refine j_zast E ks0 o22 dX12_stairs_256 ?_
  refine j_nmI (fun I23 eI23 => ?_)
  have h := h I23 eI23
  obtain ⟨x24, ex24⟩ : ∃ y : Int32, y = v3 + 1 := ⟨_, rfl⟩
  have h := h x24 ex24
  refine j_iinc E x24 [(3, .int x24), (0, .ref v0), (1, .int v1)] dX12_stairs_257 2 rfl (by rw [ex24]; rfl) (by decide) rfl ?_
  refine j_goto E 131 dX12_stairs_260 (by decide) ?_
  refine j_sub [1, 2, 0] rfl ?_
  exact hK131 v0 v1 x24 Z I23 L hZ hx kv0 h
set_option maxRecDepth 100000 in
def f_X12_stairs_b225 (K131 : Nat → Int32 → Int32 → jZ → jI → jL → Prop) (K185 : Nat → Int32 → Int32 → Int32 → jZ → jI → jL → Prop) (Q : Int32 → jZ → jI → jL → Prop) (v0 : Nat) (v1 : Int32) (v3 : Int32) (v4 : Int32) (s0 : Nat) (s1 : Int32) (s2 : Int32) (Z : jZ) (I : jI) (L : jL) : Prop := (vp_in s1 (jlen Z s0) ∧ (∀ I26 : jI, I26 = jpI I s0 s1.toNatClampNeg s2 → (∀ x27 : Int32, x27 = v4 + 1 → K185 v0 v1 v3 x27 Z I26 L)))
set_option maxHeartbeats 4000000 in
set_option maxRecDepth 100000 in
theorem m_X12_stairs_b225 {G : jG} {Z0 : jZ} {Q : Int32 → jZ → jI → jL → Prop} (E : jE G cX12_stairs RX12 w_X12_stairs 5 (some .int) { frames := 4, cells := 0, slots := 0, locals := 95 } (xrtI Z0 Q)) (K131 : Nat → Int32 → Int32 → jZ → jI → jL → Prop) (hK131 : ∀ (v0 : Nat) (v1 : Int32) (v3 : Int32) (Z : jZ) (I : jI) (L : jL), SH Z → jext Z0 Z → jk Z v0 12 → K131 v0 v1 v3 Z I L → jJ G 5 131 [(0, .ref v0), (1, .int v1), (3, .int v3)] [] Z I L 0 0) (K185 : Nat → Int32 → Int32 → Int32 → jZ → jI → jL → Prop) (hK185 : ∀ (v0 : Nat) (v1 : Int32) (v3 : Int32) (v4 : Int32) (Z : jZ) (I : jI) (L : jL), SH Z → jext Z0 Z → jk Z v0 12 → K185 v0 v1 v3 v4 Z I L → jJ G 5 185 [(0, .ref v0), (1, .int v1), (3, .int v3), (4, .int v4)] [] Z I L 0 0) (v0 : Nat) (v1 : Int32) (v3 : Int32) (v4 : Int32) (s0 : Nat) (s1 : Int32) (s2 : Int32) (Z : jZ) (I : jI) (L : jL) (hZ : SH Z) (hx : jext Z0 Z) (kv0 : jk Z v0 12) (ks0 : jk Z s0 14) (h : f_X12_stairs_b225 K131 K185 Q v0 v1 v3 v4 s0 s1 s2 Z I L) : jJ G 5 225 [(0, .ref v0), (1, .int v1), (3, .int v3), (4, .int v4)] [.int s2, .int s1, .ref s0] Z I L 0 0 := by
  obtain ⟨o25, h⟩ := h
  refine j_iast E ks0 o25 dX12_stairs_225 ?_
  refine j_nmI (fun I26 eI26 => ?_)
  have h := h I26 eI26
  obtain ⟨x27, ex27⟩ : ∃ y : Int32, y = v4 + 1 := ⟨_, rfl⟩
  have h := h x27 ex27
  refine j_iinc E x27 [(4, .int x27), (0, .ref v0), (1, .int v1), (3, .int v3)] dX12_stairs_226 3 rfl (by rw [ex27]; rfl) (by decide) rfl ?_
  refine j_goto E 185 dX12_stairs_229 (by decide) ?_
  refine j_sub [1, 2, 3, 0] rfl ?_
  exact hK185 v0 v1 v3 x27 Z I26 L hZ hx kv0 h
set_option maxRecDepth 100000 in
def f_X12_stairs_L185 (K131 : Nat → Int32 → Int32 → jZ → jI → jL → Prop) (Q : Int32 → jZ → jI → jL → Prop) : Nat → Nat → Int32 → Int32 → Int32 → jZ → jI → jL → Prop
  | 0 => fun _ _ _ _ _ _ _ => False
  | n + 1 => fun v0 v1 v3 v4 Z I L => (((8 : Int32) ≤ v4 → (∀ b29 : Nat, jr Z v0 4 = some b29 → (∀ b30 : Nat, jr Z v0 28 = some b30 → (vp_in (((5 : Int32) * v3) + (4 : Int32)) 120 ∧ ((¬ (I b30 (((5 : Int32) * v3) + (4 : Int32)).toNatClampNeg) = (1 : Int32) → f_X12_stairs_b256 K131 Q v0 v1 v3 b29 v3 (0 : Int32) Z I L) ∧ ((I b30 (((5 : Int32) * v3) + (4 : Int32)).toNatClampNeg) = (1 : Int32) → f_X12_stairs_b256 K131 Q v0 v1 v3 b29 v3 (1 : Int32) Z I L)))))) ∧ (¬ ((8 : Int32) ≤ v4) → (∀ b33 : Nat, jr Z v0 5 = some b33 → (∀ b34 : Nat, jr Z v0 28 = some b34 → (vp_in (((5 : Int32) * v3) + (3 : Int32)) 120 ∧ ((¬ v4 = (I b34 (((5 : Int32) * v3) + (3 : Int32)).toNatClampNeg) → f_X12_stairs_b225 K131 (f_X12_stairs_L185 K131 Q n) Q v0 v1 v3 v4 b33 (((8 : Int32) * v3) + v4) (0 : Int32) Z I L) ∧ (v4 = (I b34 (((5 : Int32) * v3) + (3 : Int32)).toNatClampNeg) → f_X12_stairs_b225 K131 (f_X12_stairs_L185 K131 Q n) Q v0 v1 v3 v4 b33 (((8 : Int32) * v3) + v4) (720 : Int32) Z I L)))))))
set_option maxHeartbeats 4000000 in
set_option maxRecDepth 100000 in
theorem m_X12_stairs_L185 {G : jG} {Z0 : jZ} {Q : Int32 → jZ → jI → jL → Prop} (E : jE G cX12_stairs RX12 w_X12_stairs 5 (some .int) { frames := 4, cells := 0, slots := 0, locals := 95 } (xrtI Z0 Q)) (K131 : Nat → Int32 → Int32 → jZ → jI → jL → Prop) (hK131 : ∀ (v0 : Nat) (v1 : Int32) (v3 : Int32) (Z : jZ) (I : jI) (L : jL), SH Z → jext Z0 Z → jk Z v0 12 → K131 v0 v1 v3 Z I L → jJ G 5 131 [(0, .ref v0), (1, .int v1), (3, .int v3)] [] Z I L 0 0) : ∀ (n : Nat) (v0 : Nat) (v1 : Int32) (v3 : Int32) (v4 : Int32) (Z : jZ) (I : jI) (L : jL), SH Z → jext Z0 Z → jk Z v0 12 → f_X12_stairs_L185 K131 Q n v0 v1 v3 v4 Z I L → jJ G 5 185 [(0, .ref v0), (1, .int v1), (3, .int v3), (4, .int v4)] [] Z I L 0 0 := by
  intro n
  induction n with
  | zero => intro v0 v1 v3 v4 Z I L _ _ _ h; exact h.elim
  | succ n ih =>
    intro v0 v1 v3 v4 Z I L hZ hx kv0 h
    have h : (((8 : Int32) ≤ v4 → (∀ b29 : Nat, jr Z v0 4 = some b29 → (∀ b30 : Nat, jr Z v0 28 = some b30 → (vp_in (((5 : Int32) * v3) + (4 : Int32)) 120 ∧ ((¬ (I b30 (((5 : Int32) * v3) + (4 : Int32)).toNatClampNeg) = (1 : Int32) → f_X12_stairs_b256 K131 Q v0 v1 v3 b29 v3 (0 : Int32) Z I L) ∧ ((I b30 (((5 : Int32) * v3) + (4 : Int32)).toNatClampNeg) = (1 : Int32) → f_X12_stairs_b256 K131 Q v0 v1 v3 b29 v3 (1 : Int32) Z I L)))))) ∧ (¬ ((8 : Int32) ≤ v4) → (∀ b33 : Nat, jr Z v0 5 = some b33 → (∀ b34 : Nat, jr Z v0 28 = some b34 → (vp_in (((5 : Int32) * v3) + (3 : Int32)) 120 ∧ ((¬ v4 = (I b34 (((5 : Int32) * v3) + (3 : Int32)).toNatClampNeg) → f_X12_stairs_b225 K131 (f_X12_stairs_L185 K131 Q n) Q v0 v1 v3 v4 b33 (((8 : Int32) * v3) + v4) (0 : Int32) Z I L) ∧ (v4 = (I b34 (((5 : Int32) * v3) + (3 : Int32)).toNatClampNeg) → f_X12_stairs_b225 K131 (f_X12_stairs_L185 K131 Q n) Q v0 v1 v3 v4 b33 (((8 : Int32) * v3) + v4) (720 : Int32) Z I L))))))) := h
    obtain ⟨K185, eK185⟩ : ∃ K : Nat → Int32 → Int32 → Int32 → jZ → jI → jL → Prop, K = f_X12_stairs_L185 K131 Q n := ⟨_, rfl⟩
    have hK185 := ih
    clear eK185 K185
    generalize f_X12_stairs_L185 K131 Q n = K185 at hK185 h
    refine j_iload E dX12_stairs_185 3 rfl ?_
    refine j_bipush E (v := 8) dX12_stairs_187 (by decide) ?_
    refine j_icmp_ge E 232 dX12_stairs_189 (by decide) (fun c28 => ?_) (fun c28 => ?_)
    · have h := h.1 c28
      refine j_aload_n E dX12_stairs_232 0 rfl ?_
      obtain ⟨b29, eb29, kb29, lb29⟩ := sh_f hZ kv0 (j := 4) (k := 16) (m := 24) rfl
      have h := h b29 eb29
      refine j_getr E 12 4 rfl rfl (by decide) (by decide) (iw iT_12) rfl rfl (tw W_722) kv0 eb29 dX12_stairs_233 ?_
      refine j_iload_n E dX12_stairs_236 2 rfl ?_
      refine j_aload_n E dX12_stairs_237 0 rfl ?_
      obtain ⟨b30, eb30, kb30, lb30⟩ := sh_f hZ kv0 (j := 28) (k := 14) (m := 120) rfl
      have h := h b30 eb30
      refine j_getr E 12 28 rfl rfl (by decide) (by decide) (iw iT_12) rfl rfl (tw W_707) kv0 eb30 dX12_stairs_238 ?_
      refine j_iconst E (v := 5) dX12_stairs_241 (by decide) ?_
      refine j_iload_n E dX12_stairs_242 2 rfl ?_
      refine j_imul E dX12_stairs_243 ?_
      refine j_iconst E (v := 4) dX12_stairs_244 (by decide) ?_
      refine j_iadd E dX12_stairs_245 ?_
      obtain ⟨o31, h⟩ := h
      refine j_iald E kb30 (by rw [lb30]; exact o31) dX12_stairs_246 ?_
      refine j_iconst E (v := 1) dX12_stairs_247 (by decide) ?_
      refine j_icmp_ne E 255 dX12_stairs_248 (by decide) (fun c32 => ?_) (fun c32 => ?_)
      · have h := h.1 c32
        refine j_iconst E (v := 0) dX12_stairs_255 (by decide) ?_
        refine j_sub [0, 1, 2] rfl ?_
        exact m_X12_stairs_b256 E K131 hK131 v0 v1 v3 b29 v3 (0 : Int32) Z I L hZ hx kv0 kb29 h
      · have h := h.2 c32
        refine j_iconst E (v := 1) dX12_stairs_251 (by decide) ?_
        refine j_goto E 256 dX12_stairs_252 (by decide) ?_
        refine j_sub [0, 1, 2] rfl ?_
        exact m_X12_stairs_b256 E K131 hK131 v0 v1 v3 b29 v3 (1 : Int32) Z I L hZ hx kv0 kb29 h
    · have h := h.2 c28
      refine j_aload_n E dX12_stairs_192 0 rfl ?_
      obtain ⟨b33, eb33, kb33, lb33⟩ := sh_f hZ kv0 (j := 5) (k := 14) (m := 192) rfl
      have h := h b33 eb33
      refine j_getr E 12 5 rfl rfl (by decide) (by decide) (iw iT_12) rfl rfl (tw W_683) kv0 eb33 dX12_stairs_193 ?_
      refine j_bipush E (v := 8) dX12_stairs_196 (by decide) ?_
      refine j_iload_n E dX12_stairs_198 2 rfl ?_
      refine j_imul E dX12_stairs_199 ?_
      refine j_iload E dX12_stairs_200 3 rfl ?_
      refine j_iadd E dX12_stairs_202 ?_
      refine j_iload E dX12_stairs_203 3 rfl ?_
      refine j_aload_n E dX12_stairs_205 0 rfl ?_
      obtain ⟨b34, eb34, kb34, lb34⟩ := sh_f hZ kv0 (j := 28) (k := 14) (m := 120) rfl
      have h := h b34 eb34
      refine j_getr E 12 28 rfl rfl (by decide) (by decide) (iw iT_12) rfl rfl (tw W_707) kv0 eb34 dX12_stairs_206 ?_
      refine j_iconst E (v := 5) dX12_stairs_209 (by decide) ?_
      refine j_iload_n E dX12_stairs_210 2 rfl ?_
      refine j_imul E dX12_stairs_211 ?_
      refine j_iconst E (v := 3) dX12_stairs_212 (by decide) ?_
      refine j_iadd E dX12_stairs_213 ?_
      obtain ⟨o35, h⟩ := h
      refine j_iald E kb34 (by rw [lb34]; exact o35) dX12_stairs_214 ?_
      refine j_icmp_ne E 224 dX12_stairs_215 (by decide) (fun c36 => ?_) (fun c36 => ?_)
      · have h := h.1 c36
        refine j_iconst E (v := 0) dX12_stairs_224 (by decide) ?_
        refine j_sub [0, 1, 2, 3] rfl ?_
        exact m_X12_stairs_b225 E K131 hK131 K185 hK185 v0 v1 v3 v4 b33 (((8 : Int32) * v3) + v4) (0 : Int32) Z I L hZ hx kv0 kb33 h
      · have h := h.2 c36
        refine j_sipush E (v := 720) dX12_stairs_218 (by decide) ?_
        refine j_goto E 225 dX12_stairs_221 (by decide) ?_
        refine j_sub [0, 1, 2, 3] rfl ?_
        exact m_X12_stairs_b225 E K131 hK131 K185 hK185 v0 v1 v3 v4 b33 (((8 : Int32) * v3) + v4) (720 : Int32) Z I L hZ hx kv0 kb33 h
set_option maxRecDepth 100000 in
def f_X12_stairs_L131  (Q : Int32 → jZ → jI → jL → Prop) : Nat → Nat → Int32 → Int32 → jZ → jI → jL → Prop
  | 0 => fun _ _ _ _ _ _ => False
  | n + 1 => fun v0 v1 v3 Z I L => ((v1 ≤ v3 → (∀ I38 : jI, I38 = jpI I v0 7 ((I v0 7) + (1 : Int32)) → (∀ I39 : jI, I39 = jpI I38 v0 52 (0 : Int32) → (∃ m280 : Nat, f_X12_stairs_L280  Q m280 v0 v1 (0 : Int32) Z I39 L)))) ∧ (¬ (v1 ≤ v3) → (∀ b41 : Nat, jr Z v0 1 = some b41 → (∀ b42 : Nat, jr Z v0 28 = some b42 → (vp_in ((5 : Int32) * v3) 120 ∧ (vp_in v3 24 ∧ (∀ I45 : jI, I45 = jpI I b41 v3.toNatClampNeg (I b42 ((5 : Int32) * v3).toNatClampNeg) → (∀ b46 : Nat, jr Z v0 2 = some b46 → (∀ b47 : Nat, jr Z v0 28 = some b47 → (vp_in (((5 : Int32) * v3) + (1 : Int32)) 120 ∧ (vp_in v3 24 ∧ (∀ I50 : jI, I50 = jpI I45 b46 v3.toNatClampNeg (I45 b47 (((5 : Int32) * v3) + (1 : Int32)).toNatClampNeg) → (∀ b51 : Nat, jr Z v0 3 = some b51 → (∀ b52 : Nat, jr Z v0 28 = some b52 → (vp_in (((5 : Int32) * v3) + (2 : Int32)) 120 ∧ (vp_in v3 24 ∧ (∀ I55 : jI, I55 = jpI I50 b51 v3.toNatClampNeg (I50 b52 (((5 : Int32) * v3) + (2 : Int32)).toNatClampNeg) → (∃ m185 : Nat, f_X12_stairs_L185 (f_X12_stairs_L131 Q n) Q m185 v0 v1 v3 (0 : Int32) Z I55 L))))))))))))))))))
set_option maxHeartbeats 4000000 in
set_option maxRecDepth 100000 in
theorem m_X12_stairs_L131 {G : jG} {Z0 : jZ} {Q : Int32 → jZ → jI → jL → Prop} (E : jE G cX12_stairs RX12 w_X12_stairs 5 (some .int) { frames := 4, cells := 0, slots := 0, locals := 95 } (xrtI Z0 Q))  : ∀ (n : Nat) (v0 : Nat) (v1 : Int32) (v3 : Int32) (Z : jZ) (I : jI) (L : jL), SH Z → jext Z0 Z → jk Z v0 12 → f_X12_stairs_L131  Q n v0 v1 v3 Z I L → jJ G 5 131 [(0, .ref v0), (1, .int v1), (3, .int v3)] [] Z I L 0 0 := by
  intro n
  induction n with
  | zero => intro v0 v1 v3 Z I L _ _ _ h; exact h.elim
  | succ n ih =>
    intro v0 v1 v3 Z I L hZ hx kv0 h
    have h : ((v1 ≤ v3 → (∀ I38 : jI, I38 = jpI I v0 7 ((I v0 7) + (1 : Int32)) → (∀ I39 : jI, I39 = jpI I38 v0 52 (0 : Int32) → (∃ m280 : Nat, f_X12_stairs_L280  Q m280 v0 v1 (0 : Int32) Z I39 L)))) ∧ (¬ (v1 ≤ v3) → (∀ b41 : Nat, jr Z v0 1 = some b41 → (∀ b42 : Nat, jr Z v0 28 = some b42 → (vp_in ((5 : Int32) * v3) 120 ∧ (vp_in v3 24 ∧ (∀ I45 : jI, I45 = jpI I b41 v3.toNatClampNeg (I b42 ((5 : Int32) * v3).toNatClampNeg) → (∀ b46 : Nat, jr Z v0 2 = some b46 → (∀ b47 : Nat, jr Z v0 28 = some b47 → (vp_in (((5 : Int32) * v3) + (1 : Int32)) 120 ∧ (vp_in v3 24 ∧ (∀ I50 : jI, I50 = jpI I45 b46 v3.toNatClampNeg (I45 b47 (((5 : Int32) * v3) + (1 : Int32)).toNatClampNeg) → (∀ b51 : Nat, jr Z v0 3 = some b51 → (∀ b52 : Nat, jr Z v0 28 = some b52 → (vp_in (((5 : Int32) * v3) + (2 : Int32)) 120 ∧ (vp_in v3 24 ∧ (∀ I55 : jI, I55 = jpI I50 b51 v3.toNatClampNeg (I50 b52 (((5 : Int32) * v3) + (2 : Int32)).toNatClampNeg) → (∃ m185 : Nat, f_X12_stairs_L185 (f_X12_stairs_L131 Q n) Q m185 v0 v1 v3 (0 : Int32) Z I55 L)))))))))))))))))) := h
    obtain ⟨K131, eK131⟩ : ∃ K : Nat → Int32 → Int32 → jZ → jI → jL → Prop, K = f_X12_stairs_L131  Q n := ⟨_, rfl⟩
    have hK131 := ih
    clear eK131 K131
    generalize f_X12_stairs_L131  Q n = K131 at hK131 h
    refine j_iload_n E dX12_stairs_131 2 rfl ?_
    refine j_iload_n E dX12_stairs_132 1 rfl ?_
    refine j_icmp_ge E 263 dX12_stairs_133 (by decide) (fun c37 => ?_) (fun c37 => ?_)
    · have h := h.1 c37
      refine j_aload_n E dX12_stairs_263 0 rfl ?_
      refine j_dup E dX12_stairs_264 rfl ?_
      refine j_geti E 12 7 rfl rfl (by decide) (by decide) (iw iT_12) rfl rfl (tw W_723) kv0 dX12_stairs_265 ?_
      refine j_iconst E (v := 1) dX12_stairs_268 (by decide) ?_
      refine j_iadd E dX12_stairs_269 ?_
      refine j_puti E 12 7 rfl rfl (by decide) (by decide) (iw iT_12) tyX12_ok nmX12 rfl rfl (tw W_723) rfl rfl rfl kv0 dX12_stairs_270 ?_
      refine j_nmI (fun I38 eI38 => ?_)
      have h := h I38 eI38
      refine j_aload_n E dX12_stairs_273 0 rfl ?_
      refine j_iconst E (v := 0) dX12_stairs_274 (by decide) ?_
      refine j_puti E 12 52 rfl rfl (by decide) (by decide) (iw iT_12) tyX12_ok nmX12 rfl rfl (tw W_724) rfl rfl rfl kv0 dX12_stairs_275 ?_
      refine j_nmI (fun I39 eI39 => ?_)
      have h := h I39 eI39
      refine j_iconst E (v := 0) dX12_stairs_278 (by decide) ?_
      refine j_istore_n E 3 [(3, .int (0 : Int32)), (0, .ref v0), (1, .int v1)] dX12_stairs_279 rfl (by decide) rfl ?_
      obtain ⟨n40, h⟩ := h
      refine j_sub [1, 2, 0] rfl ?_
      exact m_X12_stairs_L280 E  n40 v0 v1 (0 : Int32) Z I39 L hZ hx kv0 h
    · have h := h.2 c37
      refine j_aload_n E dX12_stairs_136 0 rfl ?_
      obtain ⟨b41, eb41, kb41, lb41⟩ := sh_f hZ kv0 (j := 1) (k := 14) (m := 24) rfl
      have h := h b41 eb41
      refine j_getr E 12 1 rfl rfl (by decide) (by decide) (iw iT_12) rfl rfl (tw W_725) kv0 eb41 dX12_stairs_137 ?_
      refine j_iload_n E dX12_stairs_140 2 rfl ?_
      refine j_aload_n E dX12_stairs_141 0 rfl ?_
      obtain ⟨b42, eb42, kb42, lb42⟩ := sh_f hZ kv0 (j := 28) (k := 14) (m := 120) rfl
      have h := h b42 eb42
      refine j_getr E 12 28 rfl rfl (by decide) (by decide) (iw iT_12) rfl rfl (tw W_707) kv0 eb42 dX12_stairs_142 ?_
      refine j_iconst E (v := 5) dX12_stairs_145 (by decide) ?_
      refine j_iload_n E dX12_stairs_146 2 rfl ?_
      refine j_imul E dX12_stairs_147 ?_
      obtain ⟨o43, h⟩ := h
      refine j_iald E kb42 (by rw [lb42]; exact o43) dX12_stairs_148 ?_
      obtain ⟨o44, h⟩ := h
      refine j_iast E kb41 (by rw [lb41]; exact o44) dX12_stairs_149 ?_
      refine j_nmI (fun I45 eI45 => ?_)
      have h := h I45 eI45
      refine j_aload_n E dX12_stairs_150 0 rfl ?_
      obtain ⟨b46, eb46, kb46, lb46⟩ := sh_f hZ kv0 (j := 2) (k := 14) (m := 24) rfl
      have h := h b46 eb46
      refine j_getr E 12 2 rfl rfl (by decide) (by decide) (iw iT_12) rfl rfl (tw W_726) kv0 eb46 dX12_stairs_151 ?_
      refine j_iload_n E dX12_stairs_154 2 rfl ?_
      refine j_aload_n E dX12_stairs_155 0 rfl ?_
      obtain ⟨b47, eb47, kb47, lb47⟩ := sh_f hZ kv0 (j := 28) (k := 14) (m := 120) rfl
      have h := h b47 eb47
      refine j_getr E 12 28 rfl rfl (by decide) (by decide) (iw iT_12) rfl rfl (tw W_707) kv0 eb47 dX12_stairs_156 ?_
      refine j_iconst E (v := 5) dX12_stairs_159 (by decide) ?_
      refine j_iload_n E dX12_stairs_160 2 rfl ?_
      refine j_imul E dX12_stairs_161 ?_
      refine j_iconst E (v := 1) dX12_stairs_162 (by decide) ?_
      refine j_iadd E dX12_stairs_163 ?_
      obtain ⟨o48, h⟩ := h
      refine j_iald E kb47 (by rw [lb47]; exact o48) dX12_stairs_164 ?_
      obtain ⟨o49, h⟩ := h
      refine j_iast E kb46 (by rw [lb46]; exact o49) dX12_stairs_165 ?_
      refine j_nmI (fun I50 eI50 => ?_)
      have h := h I50 eI50
      refine j_aload_n E dX12_stairs_166 0 rfl ?_
      obtain ⟨b51, eb51, kb51, lb51⟩ := sh_f hZ kv0 (j := 3) (k := 14) (m := 24) rfl
      have h := h b51 eb51
      refine j_getr E 12 3 rfl rfl (by decide) (by decide) (iw iT_12) rfl rfl (tw W_727) kv0 eb51 dX12_stairs_167 ?_
      refine j_iload_n E dX12_stairs_170 2 rfl ?_
      refine j_aload_n E dX12_stairs_171 0 rfl ?_
      obtain ⟨b52, eb52, kb52, lb52⟩ := sh_f hZ kv0 (j := 28) (k := 14) (m := 120) rfl
      have h := h b52 eb52
      refine j_getr E 12 28 rfl rfl (by decide) (by decide) (iw iT_12) rfl rfl (tw W_707) kv0 eb52 dX12_stairs_172 ?_
      refine j_iconst E (v := 5) dX12_stairs_175 (by decide) ?_
      refine j_iload_n E dX12_stairs_176 2 rfl ?_
      refine j_imul E dX12_stairs_177 ?_
      refine j_iconst E (v := 2) dX12_stairs_178 (by decide) ?_
      refine j_iadd E dX12_stairs_179 ?_
      obtain ⟨o53, h⟩ := h
      refine j_iald E kb52 (by rw [lb52]; exact o53) dX12_stairs_180 ?_
      obtain ⟨o54, h⟩ := h
      refine j_iast E kb51 (by rw [lb51]; exact o54) dX12_stairs_181 ?_
      refine j_nmI (fun I55 eI55 => ?_)
      have h := h I55 eI55
      refine j_iconst E (v := 0) dX12_stairs_182 (by decide) ?_
      refine j_istore E 4 [(4, .int (0 : Int32)), (0, .ref v0), (1, .int v1), (3, .int v3)] dX12_stairs_183 (by decide) rfl ?_
      obtain ⟨n56, h⟩ := h
      refine j_sub [1, 2, 3, 0] rfl ?_
      exact m_X12_stairs_L185 E K131 hK131 n56 v0 v1 v3 (0 : Int32) Z I55 L hZ hx kv0 h
set_option maxRecDepth 100000 in
def f_X12_stairs_b102  (Q : Int32 → jZ → jI → jL → Prop) (v0 : Nat) (v1 : Int32) (Z : jZ) (I : jI) (L : jL) : Prop := (f_X12_fine v0 Z I L (fun r62 I59 L60 => ((¬ r62 = 0 → (((2 : Int32) ≤ v1 → (∀ I65 : jI, I65 = jpI I59 v0 0 v1 → (∃ m131 : Nat, f_X12_stairs_L131  Q m131 v0 v1 (0 : Int32) Z I65 L60))) ∧ (¬ ((2 : Int32) ≤ v1) → Q (-100 : Int32) Z I59 L60))) ∧ (r62 = 0 → Q ((-1 : Int32) - (I59 v0 27)) Z I59 L60))))
set_option maxHeartbeats 4000000 in
set_option maxRecDepth 100000 in
theorem m_X12_stairs_b102 {G : jG} {Z0 : jZ} {Q : Int32 → jZ → jI → jL → Prop} (E : jE G cX12_stairs RX12 w_X12_stairs 5 (some .int) { frames := 4, cells := 0, slots := 0, locals := 95 } (xrtI Z0 Q))  (v0 : Nat) (v1 : Int32) (Z : jZ) (I : jI) (L : jL) (hZ : SH Z) (hx : jext Z0 Z) (kv0 : jk Z v0 12) (h : f_X12_stairs_b102  Q v0 v1 Z I L) : jJ G 5 102 [(0, .ref v0), (1, .int v1)] [] Z I L 0 0 := by
  refine j_aload_n E dX12_stairs_102 0 rfl ?_
  refine j_callV E [] [] (c_X12_fine (gL G) (gD G) (gY G) v0 Z I L _ hZ kv0 h) (gwV W_692 W_693 W_694 W_679 W_691) rfl ⟨rfl, fy_X12_fine⟩ ⟨by decide, by decide⟩ (c := 12) rfl (by decide) kv0 rfl rfl (Nat.le_of_ble_eq_true rfl) ⟨Nat.zero_le _, Nat.zero_le _⟩ dX12_stairs_103 (fun v57 Z58 I59 L60 q61 => ?_)
  obtain ⟨rfl, r62, rfl, zr62, h⟩ := q61
  show jJ G 5 106 [(0, .ref v0), (1, .int v1)] [.int r62] Z I59 L60 0 0
  refine j_if_ne E 116 dX12_stairs_106 (by decide) (fun c63 => ?_) (fun c63 => ?_)
  · have h := h.1 c63
    refine j_iload_n E dX12_stairs_116 1 rfl ?_
    refine j_iconst E (v := 2) dX12_stairs_117 (by decide) ?_
    refine j_icmp_ge E 124 dX12_stairs_118 (by decide) (fun c64 => ?_) (fun c64 => ?_)
    · have h := h.1 c64
      refine j_aload_n E dX12_stairs_124 0 rfl ?_
      refine j_iload_n E dX12_stairs_125 1 rfl ?_
      refine j_puti E 12 0 rfl rfl (by decide) (by decide) (iw iT_12) tyX12_ok nmX12 rfl rfl (tw W_677) rfl rfl rfl kv0 dX12_stairs_126 ?_
      refine j_nmI (fun I65 eI65 => ?_)
      have h := h I65 eI65
      refine j_iconst E (v := 0) dX12_stairs_129 (by decide) ?_
      refine j_istore_n E 3 [(3, .int (0 : Int32)), (0, .ref v0), (1, .int v1)] dX12_stairs_130 rfl (by decide) rfl ?_
      obtain ⟨n66, h⟩ := h
      refine j_sub [1, 2, 0] rfl ?_
      exact m_X12_stairs_L131 E  n66 v0 v1 (0 : Int32) Z I65 L60 hZ hx kv0 h
    · have h := h.2 c64
      refine j_bipush E (v := -100) dX12_stairs_121 (by decide) ?_
      exact j_ireturn E ⟨hx, hZ, _, rfl, h⟩ (Nat.zero_le _) (Nat.zero_le _) dX12_stairs_123
  · have h := h.2 c63
    refine j_iconst E (v := -1) dX12_stairs_109 (by decide) ?_
    refine j_aload_n E dX12_stairs_110 0 rfl ?_
    refine j_geti E 12 27 rfl rfl (by decide) (by decide) (iw iT_12) rfl rfl (tw W_690) kv0 dX12_stairs_111 ?_
    refine j_isub E dX12_stairs_114 ?_
    exact j_ireturn E ⟨hx, hZ, _, rfl, h⟩ (Nat.zero_le _) (Nat.zero_le _) dX12_stairs_115
set_option maxRecDepth 100000 in
def f_X12_stairs_b83  (Q : Int32 → jZ → jI → jL → Prop) (v0 : Nat) (v1 : Int32) (Z : jZ) (I : jI) (L : jL) : Prop := (((I v0 24) ≤ (I v0 26) → f_X12_stairs_b102  Q v0 v1 Z I L) ∧ (¬ ((I v0 24) ≤ (I v0 26)) → (f_X12_fault v0 (I v0 26) Z I L (fun I70 L71 => f_X12_stairs_b102  Q v0 v1 Z I70 L71))))
set_option maxHeartbeats 4000000 in
set_option maxRecDepth 100000 in
theorem m_X12_stairs_b83 {G : jG} {Z0 : jZ} {Q : Int32 → jZ → jI → jL → Prop} (E : jE G cX12_stairs RX12 w_X12_stairs 5 (some .int) { frames := 4, cells := 0, slots := 0, locals := 95 } (xrtI Z0 Q))  (v0 : Nat) (v1 : Int32) (Z : jZ) (I : jI) (L : jL) (hZ : SH Z) (hx : jext Z0 Z) (kv0 : jk Z v0 12) (h : f_X12_stairs_b83  Q v0 v1 Z I L) : jJ G 5 83 [(0, .ref v0), (1, .int v1)] [] Z I L 0 0 := by
  refine j_aload_n E dX12_stairs_83 0 rfl ?_
  refine j_geti E 12 26 rfl rfl (by decide) (by decide) (iw iT_12) rfl rfl (tw W_689) kv0 dX12_stairs_84 ?_
  refine j_aload_n E dX12_stairs_87 0 rfl ?_
  refine j_geti E 12 24 rfl rfl (by decide) (by decide) (iw iT_12) rfl rfl (tw W_687) kv0 dX12_stairs_88 ?_
  refine j_icmp_ge E 102 dX12_stairs_91 (by decide) (fun c67 => ?_) (fun c67 => ?_)
  · have h := h.1 c67
    refine j_sub [0, 1] rfl ?_
    exact m_X12_stairs_b102 E  v0 v1 Z I L hZ hx kv0 h
  · have h := h.2 c67
    refine j_aload_n E dX12_stairs_94 0 rfl ?_
    refine j_aload_n E dX12_stairs_95 0 rfl ?_
    refine j_geti E 12 26 rfl rfl (by decide) (by decide) (iw iT_12) rfl rfl (tw W_689) kv0 dX12_stairs_96 ?_
    refine j_callV E [.int (I v0 26)] [] (c_X12_fault (gL G) (gD G) (gY G) v0 (I v0 26) Z I L _ hZ kv0 h) (gwV W_704 W_705 W_706 W_679 W_703) rfl ⟨rfl, fy_X12_fault⟩ ⟨by decide, by decide⟩ (c := 12) rfl (by decide) kv0 rfl rfl (Nat.le_of_ble_eq_true rfl) ⟨Nat.zero_le _, Nat.zero_le _⟩ dX12_stairs_99 (fun v68 Z69 I70 L71 q72 => ?_)
    obtain ⟨rfl, rfl, h⟩ := q72
    show jJ G 5 102 [(0, .ref v0), (1, .int v1)] [] Z I70 L71 0 0
    refine j_sub [0, 1] rfl ?_
    exact m_X12_stairs_b102 E  v0 v1 Z I70 L71 hZ hx kv0 h
set_option maxRecDepth 100000 in
def f_X12_stairs_L39  (Q : Int32 → jZ → jI → jL → Prop) : Nat → Nat → Int32 → Int32 → jZ → jI → jL → Prop
  | 0 => fun _ _ _ _ _ _ => False
  | n + 1 => fun v0 v1 v2 Z I L => ((v2 = 0 → f_X12_stairs_b83  Q v0 v1 Z I L) ∧ (¬ (v2 = 0) → (f_X12_fine v0 Z I L (fun r79 I76 L77 => ((r79 = 0 → f_X12_stairs_b83  Q v0 v1 Z I76 L77) ∧ (¬ (r79 = 0) → ((¬ v1 = (24 : Int32) → (f_X12_readLine v0 v1 Z I76 L77 (fun r87 I84 L85 => (f_X12_passes v0 (59 : Int32) Z I84 L85 (fun r93 I90 L91 => (f_X12_stairs_L39 Q n) v0 r87 r93 Z I90 L91))))) ∧ (v1 = (24 : Int32) → (f_X12_fault v0 (I76 v0 26) Z I76 L77 (fun I96 L97 => f_X12_stairs_b83  Q v0 v1 Z I96 L97))))))))))
set_option maxHeartbeats 4000000 in
set_option maxRecDepth 100000 in
theorem m_X12_stairs_L39 {G : jG} {Z0 : jZ} {Q : Int32 → jZ → jI → jL → Prop} (E : jE G cX12_stairs RX12 w_X12_stairs 5 (some .int) { frames := 4, cells := 0, slots := 0, locals := 95 } (xrtI Z0 Q))  : ∀ (n : Nat) (v0 : Nat) (v1 : Int32) (v2 : Int32) (Z : jZ) (I : jI) (L : jL), SH Z → jext Z0 Z → jk Z v0 12 → f_X12_stairs_L39  Q n v0 v1 v2 Z I L → jJ G 5 39 [(0, .ref v0), (1, .int v1), (2, .int v2)] [] Z I L 0 0 := by
  intro n
  induction n with
  | zero => intro v0 v1 v2 Z I L _ _ _ h; exact h.elim
  | succ n ih =>
    intro v0 v1 v2 Z I L hZ hx kv0 h
    have h : ((v2 = 0 → f_X12_stairs_b83  Q v0 v1 Z I L) ∧ (¬ (v2 = 0) → (f_X12_fine v0 Z I L (fun r79 I76 L77 => ((r79 = 0 → f_X12_stairs_b83  Q v0 v1 Z I76 L77) ∧ (¬ (r79 = 0) → ((¬ v1 = (24 : Int32) → (f_X12_readLine v0 v1 Z I76 L77 (fun r87 I84 L85 => (f_X12_passes v0 (59 : Int32) Z I84 L85 (fun r93 I90 L91 => (f_X12_stairs_L39 Q n) v0 r87 r93 Z I90 L91))))) ∧ (v1 = (24 : Int32) → (f_X12_fault v0 (I76 v0 26) Z I76 L77 (fun I96 L97 => f_X12_stairs_b83  Q v0 v1 Z I96 L97)))))))))) := h
    obtain ⟨K39, eK39⟩ : ∃ K : Nat → Int32 → Int32 → jZ → jI → jL → Prop, K = f_X12_stairs_L39  Q n := ⟨_, rfl⟩
    have hK39 := ih
    clear eK39 K39
    generalize f_X12_stairs_L39  Q n = K39 at hK39 h
    refine j_iload_n E dX12_stairs_39 2 rfl ?_
    refine j_if_eq E 83 dX12_stairs_40 (by decide) (fun c73 => ?_) (fun c73 => ?_)
    · have h := h.1 c73
      refine j_sub [0, 1] rfl ?_
      exact m_X12_stairs_b83 E  v0 v1 Z I L hZ hx kv0 h
    · have h := h.2 c73
      refine j_aload_n E dX12_stairs_43 0 rfl ?_
      refine j_callV E [] [] (c_X12_fine (gL G) (gD G) (gY G) v0 Z I L _ hZ kv0 h) (gwV W_692 W_693 W_694 W_679 W_691) rfl ⟨rfl, fy_X12_fine⟩ ⟨by decide, by decide⟩ (c := 12) rfl (by decide) kv0 rfl rfl (Nat.le_of_ble_eq_true rfl) ⟨Nat.zero_le _, Nat.zero_le _⟩ dX12_stairs_44 (fun v74 Z75 I76 L77 q78 => ?_)
      obtain ⟨rfl, r79, rfl, zr79, h⟩ := q78
      show jJ G 5 47 [(0, .ref v0), (1, .int v1), (2, .int v2)] [.int r79] Z I76 L77 0 0
      refine j_if_eq E 83 dX12_stairs_47 (by decide) (fun c80 => ?_) (fun c80 => ?_)
      · have h := h.1 c80
        refine j_sub [0, 1] rfl ?_
        exact m_X12_stairs_b83 E  v0 v1 Z I76 L77 hZ hx kv0 h
      · have h := h.2 c80
        refine j_iload_n E dX12_stairs_50 1 rfl ?_
        refine j_bipush E (v := 24) dX12_stairs_51 (by decide) ?_
        refine j_icmp_ne E 67 dX12_stairs_53 (by decide) (fun c81 => ?_) (fun c81 => ?_)
        · have h := h.1 c81
          refine j_aload_n E dX12_stairs_67 0 rfl ?_
          refine j_iload_n E dX12_stairs_68 1 rfl ?_
          refine j_callV E [.int v1] [] (c_X12_readLine (gL G) (gD G) (gY G) v0 v1 Z I76 L77 _ hZ kv0 h) (gwV W_729 W_730 W_731 W_679 W_728) rfl ⟨rfl, fy_X12_readLine⟩ ⟨by decide, by decide⟩ (c := 12) rfl (by decide) kv0 rfl rfl (Nat.le_of_ble_eq_true rfl) ⟨Nat.zero_le _, Nat.zero_le _⟩ dX12_stairs_69 (fun v82 Z83 I84 L85 q86 => ?_)
          obtain ⟨rfl, r87, rfl, h⟩ := q86
          show jJ G 5 72 [(0, .ref v0), (1, .int v1), (2, .int v2)] [.int r87] Z I84 L85 0 0
          refine j_istore_n E 1 [(1, .int r87), (0, .ref v0), (2, .int v2)] dX12_stairs_72 rfl (by decide) rfl ?_
          refine j_aload_n E dX12_stairs_73 1 rfl ?_
          refine j_bipush E (v := 59) dX12_stairs_74 (by decide) ?_
          refine j_callV E [.int (59 : Int32)] [] (c_X12_passes (gL G) (gD G) (gY G) v0 (59 : Int32) Z I84 L85 _ hZ kv0 h) (gwV W_700 W_701 W_702 W_679 W_699) rfl ⟨rfl, fy_X12_passes⟩ ⟨by decide, by decide⟩ (c := 12) rfl (by decide) kv0 rfl rfl (Nat.le_of_ble_eq_true rfl) ⟨Nat.zero_le _, Nat.zero_le _⟩ dX12_stairs_76 (fun v88 Z89 I90 L91 q92 => ?_)
          obtain ⟨rfl, r93, rfl, zr93, h⟩ := q92
          show jJ G 5 79 [(1, .int r87), (0, .ref v0), (2, .int v2)] [.int r93] Z I90 L91 0 0
          refine j_istore_n E 2 [(2, .int r93), (1, .int r87), (0, .ref v0)] dX12_stairs_79 rfl (by decide) rfl ?_
          refine j_goto E 39 dX12_stairs_80 (by decide) ?_
          refine j_sub [2, 1, 0] rfl ?_
          exact hK39 v0 r87 r93 Z I90 L91 hZ hx kv0 h
        · have h := h.2 c81
          refine j_aload_n E dX12_stairs_56 0 rfl ?_
          refine j_aload_n E dX12_stairs_57 0 rfl ?_
          refine j_geti E 12 26 rfl rfl (by decide) (by decide) (iw iT_12) rfl rfl (tw W_689) kv0 dX12_stairs_58 ?_
          refine j_callV E [.int (I76 v0 26)] [] (c_X12_fault (gL G) (gD G) (gY G) v0 (I76 v0 26) Z I76 L77 _ hZ kv0 h) (gwV W_704 W_705 W_706 W_679 W_703) rfl ⟨rfl, fy_X12_fault⟩ ⟨by decide, by decide⟩ (c := 12) rfl (by decide) kv0 rfl rfl (Nat.le_of_ble_eq_true rfl) ⟨Nat.zero_le _, Nat.zero_le _⟩ dX12_stairs_61 (fun v94 Z95 I96 L97 q98 => ?_)
          obtain ⟨rfl, rfl, h⟩ := q98
          show jJ G 5 64 [(0, .ref v0), (1, .int v1), (2, .int v2)] [] Z I96 L97 0 0
          refine j_goto E 83 dX12_stairs_64 (by decide) ?_
          refine j_sub [0, 1] rfl ?_
          exact m_X12_stairs_b83 E  v0 v1 Z I96 L97 hZ hx kv0 h
set_option maxRecDepth 100000 in
def f_X12_stairs_b38  (Q : Int32 → jZ → jI → jL → Prop) (v0 : Nat) (v1 : Int32) (s0 : Int32) (Z : jZ) (I : jI) (L : jL) : Prop := (∃ m39 : Nat, f_X12_stairs_L39  Q m39 v0 v1 s0 Z I L)
set_option maxHeartbeats 4000000 in
set_option maxRecDepth 100000 in
theorem m_X12_stairs_b38 {G : jG} {Z0 : jZ} {Q : Int32 → jZ → jI → jL → Prop} (E : jE G cX12_stairs RX12 w_X12_stairs 5 (some .int) { frames := 4, cells := 0, slots := 0, locals := 95 } (xrtI Z0 Q))  (v0 : Nat) (v1 : Int32) (s0 : Int32) (Z : jZ) (I : jI) (L : jL) (hZ : SH Z) (hx : jext Z0 Z) (kv0 : jk Z v0 12) (h : f_X12_stairs_b38  Q v0 v1 s0 Z I L) : jJ G 5 38 [(0, .ref v0), (1, .int v1)] [.int s0] Z I L 0 0 := by
  refine j_istore_n E 2 [(2, .int s0), (0, .ref v0), (1, .int v1)] dX12_stairs_38 rfl (by decide) rfl ?_
  obtain ⟨n99, h⟩ := h
  refine j_sub [1, 2, 0] rfl ?_
  exact m_X12_stairs_L39 E  n99 v0 v1 s0 Z I L hZ hx kv0 h
set_option maxRecDepth 100000 in
def f_X12_stairs (v0 : Nat) (Z : jZ) (I : jI) (L : jL) (Q : Int32 → jZ → jI → jL → Prop) : Prop := (∀ I100 : jI, I100 = jpI I v0 22 (0 : Int32) → (∀ b101 : Nat, jr Z v0 18 = some b101 → (f_X12_begin v0 b101 (I100 v0 19) (76 : Int32) Z I100 L (fun Z103 I104 L105 => (∀ I108 : jI, I108 = jpI I104 v0 19 (0 : Int32) → (((I108 v0 24) ≤ 0 → f_X12_stairs_b38  Q v0 (0 : Int32) (0 : Int32) Z103 I108 L105) ∧ (¬ ((I108 v0 24) ≤ 0) → f_X12_stairs_b38  Q v0 (0 : Int32) (1 : Int32) Z103 I108 L105)))))))
set_option maxHeartbeats 4000000 in
set_option maxRecDepth 100000 in
theorem c_X12_stairs (l : Launch) (D : va_G) (cy : jC) (v0 : Nat) (Z : jZ) (I : jI) (L : jL) (Q : Int32 → jZ → jI → jL → Prop) (hZ : SH Z) (kv0 : jk Z v0 12) (h : f_X12_stairs v0 Z I L Q) : jCt l yX12_stairs w_X12_stairs { frames := 4, cells := 0, slots := 0, locals := 95 } D cy [.ref v0] Z I L (xrtI Z Q) := by
  refine jCt_of (cc := cX12_stairs) (maxL := 5) (ret := (some .int)) (by decide +kernel) rfl (Nat.le_of_ble_eq_true rfl) ?_
  intro G eD eY eL E
  subst eD; subst eY; subst eL
  have E : jE G cX12_stairs RX12 w_X12_stairs 5 (some .int) { frames := 4, cells := 0, slots := 0, locals := 95 } (xrtI Z Q) := E
  have hx : jext Z Z := jext_rfl
  show jJ G 5 0 [(0, .ref v0)] [] Z I L 0 0
  refine j_aload_n E dX12_stairs_0 0 rfl ?_
  refine j_iconst E (v := 0) dX12_stairs_1 (by decide) ?_
  refine j_puti E 12 22 rfl rfl (by decide) (by decide) (iw iT_12) tyX12_ok nmX12 rfl rfl (tw W_674) rfl rfl rfl kv0 dX12_stairs_2 ?_
  refine j_nmI (fun I100 eI100 => ?_)
  have h := h I100 eI100
  refine j_aload_n E dX12_stairs_5 0 rfl ?_
  refine j_aload_n E dX12_stairs_6 0 rfl ?_
  obtain ⟨b101, eb101, kb101, lb101⟩ := sh_f hZ kv0 (j := 18) (k := 13) (m := 80) rfl
  have h := h b101 eb101
  refine j_getr E 12 18 rfl rfl (by decide) (by decide) (iw iT_12) rfl rfl (tw W_685) kv0 eb101 dX12_stairs_7 ?_
  refine j_aload_n E dX12_stairs_10 0 rfl ?_
  refine j_geti E 12 19 rfl rfl (by decide) (by decide) (iw iT_12) rfl rfl (tw W_684) kv0 dX12_stairs_11 ?_
  refine j_bipush E (v := 76) dX12_stairs_14 (by decide) ?_
  refine j_callV E [.ref b101, .int (I100 v0 19), .int (76 : Int32)] [] (c_X12_begin (gL G) (gD G) (gY G) v0 b101 (I100 v0 19) (76 : Int32) Z I100 L _ hZ kv0 kb101 h) (gwV W_733 W_734 W_735 W_679 W_732) rfl ⟨rfl, fy_X12_begin⟩ ⟨by decide, by decide⟩ (c := 12) rfl (by decide) kv0 rfl rfl (Nat.le_of_ble_eq_true rfl) ⟨Nat.zero_le _, Nat.zero_le _⟩ dX12_stairs_16 (fun v102 Z103 I104 L105 q106 => ?_)
  obtain ⟨yZ103, hZ103, rfl, h⟩ := q106
  have hZ := hZ103
  have hx : jext Z Z103 := jext_trans hx yZ103
  have k107 := (yZ103 _ _ kv0).1
  show jJ G 5 19 [(0, .ref v0)] [] Z103 I104 L105 0 0
  refine j_aload_n E dX12_stairs_19 0 rfl ?_
  refine j_iconst E (v := 0) dX12_stairs_20 (by decide) ?_
  refine j_puti E 12 19 rfl rfl (by decide) (by decide) (iw iT_12) tyX12_ok nmX12 rfl rfl (tw W_684) rfl rfl rfl k107 dX12_stairs_21 ?_
  refine j_nmI (fun I108 eI108 => ?_)
  have h := h I108 eI108
  refine j_iconst E (v := 0) dX12_stairs_24 (by decide) ?_
  refine j_istore_n E 1 [(1, .int (0 : Int32)), (0, .ref v0)] dX12_stairs_25 rfl (by decide) rfl ?_
  refine j_aload_n E dX12_stairs_26 1 rfl ?_
  refine j_geti E 12 24 rfl rfl (by decide) (by decide) (iw iT_12) rfl rfl (tw W_687) k107 dX12_stairs_27 ?_
  refine j_if_le E 37 dX12_stairs_30 (by decide) (fun c109 => ?_) (fun c109 => ?_)
  · have h := h.1 c109
    refine j_iconst E (v := 0) dX12_stairs_37 (by decide) ?_
    refine j_sub [1, 0] rfl ?_
    exact m_X12_stairs_b38 E  v0 (0 : Int32) (0 : Int32) Z103 I108 L105 hZ hx k107 h
  · have h := h.2 c109
    refine j_iconst E (v := 1) dX12_stairs_33 (by decide) ?_
    refine j_goto E 38 dX12_stairs_34 (by decide) ?_
    refine j_sub [1, 0] rfl ?_
    exact m_X12_stairs_b38 E  v0 (0 : Int32) (1 : Int32) Z103 I108 L105 hZ hx k107 h
set_option maxRecDepth 100000 in
def f_X12_letter (v0 : Nat) (v1 : Int32) (Z : jZ) (I : jI) (L : jL) (Q : Int32 → jI → jL → Prop) : Prop := ((v1 = 97 → (∀ b2 : Nat, jr Z v0 3 = some b2 → (vp_in (I v0 31) 24 ∧ Q (I b2 (I v0 31).toNatClampNeg) I L))) ∧ (¬ v1 = 97 → ((v1 = 108 → Q (I v0 33) I L) ∧ (¬ v1 = 108 → ((v1 = 114 → (∀ b6 : Nat, jr Z v0 1 = some b6 → (vp_in (I v0 31) 24 ∧ Q (I b6 (I v0 31).toNatClampNeg) I L))) ∧ (¬ v1 = 114 → ((v1 = 115 → (∀ b9 : Nat, jr Z v0 2 = some b9 → (vp_in (I v0 31) 24 ∧ Q (I b9 (I v0 31).toNatClampNeg) I L))) ∧ (¬ v1 = 115 → ((v1 = 119 → (∀ b12 : Nat, jr Z v0 4 = some b12 → (vp_in (I v0 31) 24 ∧ (((I b12 (I v0 31).toNatClampNeg) = 0 → Q (0 : Int32) I L) ∧ (¬ ((I b12 (I v0 31).toNatClampNeg) = 0) → Q (1 : Int32) I L))))) ∧ (¬ v1 = 119 → ((v1 = 120 → (((I v0 32) < 0 → Q (0 : Int32) I L) ∧ (¬ ((I v0 32) < 0) → (∀ b17 : Nat, jr Z v0 6 = some b17 → (f_X12_mainOf v0 (I v0 32) Z I L (fun r23 I20 L21 => (f_X12_mainOf v0 (I20 v0 31) Z I20 L21 (fun r29 I26 L27 => (vp_in (((8 : Int32) * r23) + r29) 64 ∧ (((I26 b17 (((8 : Int32) * r23) + r29).toNatClampNeg) = 0 → Q (0 : Int32) I26 L27) ∧ (¬ ((I26 b17 (((8 : Int32) * r23) + r29).toNatClampNeg) = 0) → Q (1 : Int32) I26 L27))))))))))) ∧ (¬ v1 = 120 → Q (I v0 34) I L))))))))))))
set_option maxHeartbeats 4000000 in
set_option maxRecDepth 100000 in
theorem c_X12_letter (l : Launch) (D : va_G) (cy : jC) (v0 : Nat) (v1 : Int32) (Z : jZ) (I : jI) (L : jL) (Q : Int32 → jI → jL → Prop) (hZ : SH Z) (kv0 : jk Z v0 12) (h : f_X12_letter v0 v1 Z I L Q) : jCt l yX12_letter w_X12_letter { frames := 1, cells := 0, slots := 0, locals := 23 } D cy [.ref v0, .int v1] Z I L (rtI Z Q) := by
  refine jCt_of (cc := cX12_letter) (maxL := 2) (ret := (some .int)) (by decide +kernel) rfl (Nat.le_of_ble_eq_true rfl) ?_
  intro G eD eY eL E
  subst eD; subst eY; subst eL
  have E : jE G cX12_letter RX12 w_X12_letter 2 (some .int) { frames := 1, cells := 0, slots := 0, locals := 23 } (rtI Z Q) := E
  show jJ G 2 0 [(0, .ref v0), (1, .int v1)] [] Z I L 0 0
  refine j_iload_n E dX12_letter_0 1 rfl ?_
  by_cases c1 : v1 = 97
  · have h := h.1 c1
    refine j_lookup E (59) 60 dX12_letter_1 (by decide) (by rw [c1]; rfl) (by decide) ?_
    refine j_aload_n E dX12_letter_60 0 rfl ?_
    obtain ⟨b2, eb2, kb2, lb2⟩ := sh_f hZ kv0 (j := 3) (k := 14) (m := 24) rfl
    have h := h b2 eb2
    refine j_getr E 12 3 rfl rfl (by decide) (by decide) (iw iT_12) rfl rfl (tw W_727) kv0 eb2 dX12_letter_61 ?_
    refine j_aload_n E dX12_letter_64 0 rfl ?_
    refine j_geti E 12 31 rfl rfl (by decide) (by decide) (iw iT_12) rfl rfl (tw W_736) kv0 dX12_letter_65 ?_
    obtain ⟨o3, h⟩ := h
    refine j_iald E kb2 (by rw [lb2]; exact o3) dX12_letter_68 ?_
    exact j_ireturn E ⟨rfl, _, rfl, h⟩ (Nat.zero_le _) (Nat.zero_le _) dX12_letter_69
  · have h := h.2 c1
    by_cases c4 : v1 = 108
    · have h := h.1 c4
      refine j_lookup E (148) 149 dX12_letter_1 (by decide) (by rw [c4]; rfl) (by decide) ?_
      refine j_aload_n E dX12_letter_149 0 rfl ?_
      refine j_geti E 12 33 rfl rfl (by decide) (by decide) (iw iT_12) rfl rfl (tw W_737) kv0 dX12_letter_150 ?_
      exact j_ireturn E ⟨rfl, _, rfl, h⟩ (Nat.zero_le _) (Nat.zero_le _) dX12_letter_153
    · have h := h.2 c4
      by_cases c5 : v1 = 114
      · have h := h.1 c5
        refine j_lookup E (69) 70 dX12_letter_1 (by decide) (by rw [c5]; rfl) (by decide) ?_
        refine j_aload_n E dX12_letter_70 0 rfl ?_
        obtain ⟨b6, eb6, kb6, lb6⟩ := sh_f hZ kv0 (j := 1) (k := 14) (m := 24) rfl
        have h := h b6 eb6
        refine j_getr E 12 1 rfl rfl (by decide) (by decide) (iw iT_12) rfl rfl (tw W_725) kv0 eb6 dX12_letter_71 ?_
        refine j_aload_n E dX12_letter_74 0 rfl ?_
        refine j_geti E 12 31 rfl rfl (by decide) (by decide) (iw iT_12) rfl rfl (tw W_736) kv0 dX12_letter_75 ?_
        obtain ⟨o7, h⟩ := h
        refine j_iald E kb6 (by rw [lb6]; exact o7) dX12_letter_78 ?_
        exact j_ireturn E ⟨rfl, _, rfl, h⟩ (Nat.zero_le _) (Nat.zero_le _) dX12_letter_79
      · have h := h.2 c5
        by_cases c8 : v1 = 115
        · have h := h.1 c8
          refine j_lookup E (79) 80 dX12_letter_1 (by decide) (by rw [c8]; rfl) (by decide) ?_
          refine j_aload_n E dX12_letter_80 0 rfl ?_
          obtain ⟨b9, eb9, kb9, lb9⟩ := sh_f hZ kv0 (j := 2) (k := 14) (m := 24) rfl
          have h := h b9 eb9
          refine j_getr E 12 2 rfl rfl (by decide) (by decide) (iw iT_12) rfl rfl (tw W_726) kv0 eb9 dX12_letter_81 ?_
          refine j_aload_n E dX12_letter_84 0 rfl ?_
          refine j_geti E 12 31 rfl rfl (by decide) (by decide) (iw iT_12) rfl rfl (tw W_736) kv0 dX12_letter_85 ?_
          obtain ⟨o10, h⟩ := h
          refine j_iald E kb9 (by rw [lb9]; exact o10) dX12_letter_88 ?_
          exact j_ireturn E ⟨rfl, _, rfl, h⟩ (Nat.zero_le _) (Nat.zero_le _) dX12_letter_89
        · have h := h.2 c8
          by_cases c11 : v1 = 119
          · have h := h.1 c11
            refine j_lookup E (89) 90 dX12_letter_1 (by decide) (by rw [c11]; rfl) (by decide) ?_
            refine j_aload_n E dX12_letter_90 0 rfl ?_
            obtain ⟨b12, eb12, kb12, lb12⟩ := sh_f hZ kv0 (j := 4) (k := 16) (m := 24) rfl
            have h := h b12 eb12
            refine j_getr E 12 4 rfl rfl (by decide) (by decide) (iw iT_12) rfl rfl (tw W_722) kv0 eb12 dX12_letter_91 ?_
            refine j_aload_n E dX12_letter_94 0 rfl ?_
            refine j_geti E 12 31 rfl rfl (by decide) (by decide) (iw iT_12) rfl rfl (tw W_736) kv0 dX12_letter_95 ?_
            obtain ⟨o13, h⟩ := h
            refine j_zald E kb12 (by rw [lb12]; exact o13) dX12_letter_98 ?_
            refine j_if_eq E 106 dX12_letter_99 (by decide) (fun c14 => ?_) (fun c14 => ?_)
            · have h := h.1 c14
              refine j_iconst E (v := 0) dX12_letter_106 (by decide) ?_
              exact j_ireturn E ⟨rfl, _, rfl, h⟩ (Nat.zero_le _) (Nat.zero_le _) dX12_letter_107
            · have h := h.2 c14
              refine j_iconst E (v := 1) dX12_letter_102 (by decide) ?_
              refine j_goto E 107 dX12_letter_103 (by decide) ?_
              exact j_ireturn E ⟨rfl, _, rfl, h⟩ (Nat.zero_le _) (Nat.zero_le _) dX12_letter_107
          · have h := h.2 c11
            by_cases c15 : v1 = 120
            · have h := h.1 c15
              refine j_lookup E (107) 108 dX12_letter_1 (by decide) (by rw [c15]; rfl) (by decide) ?_
              refine j_aload_n E dX12_letter_108 0 rfl ?_
              refine j_geti E 12 32 rfl rfl (by decide) (by decide) (iw iT_12) rfl rfl (tw W_738) kv0 dX12_letter_109 ?_
              refine j_if_lt E 147 dX12_letter_112 (by decide) (fun c16 => ?_) (fun c16 => ?_)
              · have h := h.1 c16
                refine j_iconst E (v := 0) dX12_letter_147 (by decide) ?_
                exact j_ireturn E ⟨rfl, _, rfl, h⟩ (Nat.zero_le _) (Nat.zero_le _) dX12_letter_148
              · have h := h.2 c16
                refine j_aload_n E dX12_letter_115 0 rfl ?_
                obtain ⟨b17, eb17, kb17, lb17⟩ := sh_f hZ kv0 (j := 6) (k := 16) (m := 64) rfl
                have h := h b17 eb17
                refine j_getr E 12 6 rfl rfl (by decide) (by decide) (iw iT_12) rfl rfl (tw W_739) kv0 eb17 dX12_letter_116 ?_
                refine j_bipush E (v := 8) dX12_letter_119 (by decide) ?_
                refine j_aload_n E dX12_letter_121 0 rfl ?_
                refine j_aload_n E dX12_letter_122 0 rfl ?_
                refine j_geti E 12 32 rfl rfl (by decide) (by decide) (iw iT_12) rfl rfl (tw W_738) kv0 dX12_letter_123 ?_
                refine j_callV E [.int (I v0 32)] [.int (8 : Int32), .ref b17] (c_X12_mainOf (gL G) (gD G) (gY G) v0 (I v0 32) Z I L _ hZ kv0 h) (gwV W_741 W_742 W_743 W_679 W_740) rfl ⟨rfl, fy_X12_mainOf⟩ ⟨by decide, by decide⟩ (c := 12) rfl (by decide) kv0 rfl rfl (Nat.le_of_ble_eq_true rfl) ⟨Nat.zero_le _, Nat.zero_le _⟩ dX12_letter_126 (fun v18 Z19 I20 L21 q22 => ?_)
                obtain ⟨rfl, r23, rfl, h⟩ := q22
                show jJ G 2 129 [(0, .ref v0), (1, .int v1)] [.int r23, .int (8 : Int32), .ref b17] Z I20 L21 0 0
                refine j_imul E dX12_letter_129 ?_
                refine j_aload_n E dX12_letter_130 0 rfl ?_
                refine j_aload_n E dX12_letter_131 0 rfl ?_
                refine j_geti E 12 31 rfl rfl (by decide) (by decide) (iw iT_12) rfl rfl (tw W_736) kv0 dX12_letter_132 ?_
                refine j_callV E [.int (I20 v0 31)] [.int ((8 : Int32) * r23), .ref b17] (c_X12_mainOf (gL G) (gD G) (gY G) v0 (I20 v0 31) Z I20 L21 _ hZ kv0 h) (gwV W_741 W_742 W_743 W_679 W_740) rfl ⟨rfl, fy_X12_mainOf⟩ ⟨by decide, by decide⟩ (c := 12) rfl (by decide) kv0 rfl rfl (Nat.le_of_ble_eq_true rfl) ⟨Nat.zero_le _, Nat.zero_le _⟩ dX12_letter_135 (fun v24 Z25 I26 L27 q28 => ?_)
                obtain ⟨rfl, r29, rfl, h⟩ := q28
                show jJ G 2 138 [(0, .ref v0), (1, .int v1)] [.int r29, .int ((8 : Int32) * r23), .ref b17] Z I26 L27 0 0
                refine j_iadd E dX12_letter_138 ?_
                obtain ⟨o30, h⟩ := h
                refine j_zald E kb17 (by rw [lb17]; exact o30) dX12_letter_139 ?_
                refine j_if_eq E 147 dX12_letter_140 (by decide) (fun c31 => ?_) (fun c31 => ?_)
                · have h := h.1 c31
                  refine j_iconst E (v := 0) dX12_letter_147 (by decide) ?_
                  exact j_ireturn E ⟨rfl, _, rfl, h⟩ (Nat.zero_le _) (Nat.zero_le _) dX12_letter_148
                · have h := h.2 c31
                  refine j_iconst E (v := 1) dX12_letter_143 (by decide) ?_
                  refine j_goto E 148 dX12_letter_144 (by decide) ?_
                  exact j_ireturn E ⟨rfl, _, rfl, h⟩ (Nat.zero_le _) (Nat.zero_le _) dX12_letter_148
            · have h := h.2 c15
              refine j_lookup E (153) 154 dX12_letter_1 (by decide) (by show Op.lookupswitch.offset [(97, 59), (108, 148), (114, 69), (115, 79), (119, 89), (120, 107)] 153 _ = _; rw [lv_osw c1 (show ((97 : Int32).toInt) = 97 from rfl), lv_osw c4 (show ((108 : Int32).toInt) = 108 from rfl), lv_osw c5 (show ((114 : Int32).toInt) = 114 from rfl), lv_osw c8 (show ((115 : Int32).toInt) = 115 from rfl), lv_osw c11 (show ((119 : Int32).toInt) = 119 from rfl), lv_osw c15 (show ((120 : Int32).toInt) = 120 from rfl)]; rfl) (by decide) ?_
              refine j_aload_n E dX12_letter_154 0 rfl ?_
              refine j_geti E 12 34 rfl rfl (by decide) (by decide) (iw iT_12) rfl rfl (tw W_744) kv0 dX12_letter_155 ?_
              exact j_ireturn E ⟨rfl, _, rfl, h⟩ (Nat.zero_le _) (Nat.zero_le _) dX12_letter_158
set_option maxRecDepth 100000 in
def f_X12_law_L85  (Q : Int32 → jZ → jI → jL → Prop) : Nat → Nat → Int32 → Int32 → Int32 → jZ → jI → jL → Prop
  | 0 => fun _ _ _ _ _ _ _ => False
  | n + 1 => fun v0 v1 v2 v3 Z I L => ((v2 ≤ v3 → (∀ b2 : Nat, jr Z v0 30 = some b2 → (vp_in v1 2 ∧ (∀ I4 : jI, I4 = jpI I b2 v1.toNatClampNeg v2 → Q (0 : Int32) Z I4 L)))) ∧ (¬ (v2 ≤ v3) → (∀ b5 : Nat, jr Z v0 29 = some b5 → (vp_in v1 2 ∧ (∀ b7 : Nat, jr Z b5 v1.toNatClampNeg = some b7 → (∀ b8 : Nat, jr Z v0 18 = some b8 → (vp_in v3 80 ∧ (vp_in v3 40 ∧ (∀ I11 : jI, I11 = jpI I b7 v3.toNatClampNeg (vp_nar .byte (I b8 v3.toNatClampNeg)) → (∀ x12 : Int32, x12 = v3 + 1 → (f_X12_law_L85 Q n) v0 v1 v2 x12 Z I11 L))))))))))
set_option maxHeartbeats 4000000 in
set_option maxRecDepth 100000 in
theorem m_X12_law_L85 {G : jG} {Z0 : jZ} {Q : Int32 → jZ → jI → jL → Prop} (E : jE G cX12_law RX12 w_X12_law 4 (some .int) { frames := 2, cells := 0, slots := 0, locals := 41 } (xrtI Z0 Q))  : ∀ (n : Nat) (v0 : Nat) (v1 : Int32) (v2 : Int32) (v3 : Int32) (Z : jZ) (I : jI) (L : jL), SH Z → jext Z0 Z → jk Z v0 12 → f_X12_law_L85  Q n v0 v1 v2 v3 Z I L → jJ G 4 85 [(0, .ref v0), (1, .int v1), (2, .int v2), (3, .int v3)] [] Z I L 0 0 := by
  intro n
  induction n with
  | zero => intro v0 v1 v2 v3 Z I L _ _ _ h; exact h.elim
  | succ n ih =>
    intro v0 v1 v2 v3 Z I L hZ hx kv0 h
    have h : ((v2 ≤ v3 → (∀ b2 : Nat, jr Z v0 30 = some b2 → (vp_in v1 2 ∧ (∀ I4 : jI, I4 = jpI I b2 v1.toNatClampNeg v2 → Q (0 : Int32) Z I4 L)))) ∧ (¬ (v2 ≤ v3) → (∀ b5 : Nat, jr Z v0 29 = some b5 → (vp_in v1 2 ∧ (∀ b7 : Nat, jr Z b5 v1.toNatClampNeg = some b7 → (∀ b8 : Nat, jr Z v0 18 = some b8 → (vp_in v3 80 ∧ (vp_in v3 40 ∧ (∀ I11 : jI, I11 = jpI I b7 v3.toNatClampNeg (vp_nar .byte (I b8 v3.toNatClampNeg)) → (∀ x12 : Int32, x12 = v3 + 1 → (f_X12_law_L85 Q n) v0 v1 v2 x12 Z I11 L)))))))))) := h
    obtain ⟨K85, eK85⟩ : ∃ K : Nat → Int32 → Int32 → Int32 → jZ → jI → jL → Prop, K = f_X12_law_L85  Q n := ⟨_, rfl⟩
    have hK85 := ih
    clear eK85 K85
    generalize f_X12_law_L85  Q n = K85 at hK85 h
    refine j_iload_n E dX12_law_85 3 rfl ?_
    refine j_iload_n E dX12_law_86 2 rfl ?_
    refine j_icmp_ge E 110 dX12_law_87 (by decide) (fun c1 => ?_) (fun c1 => ?_)
    · have h := h.1 c1
      refine j_aload_n E dX12_law_110 0 rfl ?_
      obtain ⟨b2, eb2, kb2, lb2⟩ := sh_f hZ kv0 (j := 30) (k := 14) (m := 2) rfl
      have h := h b2 eb2
      refine j_getr E 12 30 rfl rfl (by decide) (by decide) (iw iT_12) rfl rfl (tw W_745) kv0 eb2 dX12_law_111 ?_
      refine j_iload_n E dX12_law_114 1 rfl ?_
      refine j_iload_n E dX12_law_115 2 rfl ?_
      obtain ⟨o3, h⟩ := h
      refine j_iast E kb2 (by rw [lb2]; exact o3) dX12_law_116 ?_
      refine j_nmI (fun I4 eI4 => ?_)
      have h := h I4 eI4
      refine j_iconst E (v := 0) dX12_law_117 (by decide) ?_
      exact j_ireturn E ⟨hx, hZ, _, rfl, h⟩ (Nat.zero_le _) (Nat.zero_le _) dX12_law_118
    · have h := h.2 c1
      refine j_aload_n E dX12_law_90 0 rfl ?_
      obtain ⟨b5, eb5, kb5, lb5⟩ := sh_f hZ kv0 (j := 29) (k := 19) (m := 2) rfl
      have h := h b5 eb5
      refine j_getr E 12 29 rfl rfl (by decide) (by decide) (iw iT_12) rfl rfl (tw W_746) kv0 eb5 dX12_law_91 ?_
      refine j_iload_n E dX12_law_94 1 rfl ?_
      obtain ⟨o6, h⟩ := h
      refine j_aald19 E kb5 (by rw [lb5]; exact o6) dX12_law_95 ?_
      obtain ⟨b7, eb7, kb7, lb7⟩ := sh_b hZ kb5 (by rw [lb5]; exact o6)
      have h := h b7 eb7
      refine j_rfS eb7 ?_
      refine j_iload_n E dX12_law_96 3 rfl ?_
      refine j_aload_n E dX12_law_97 0 rfl ?_
      obtain ⟨b8, eb8, kb8, lb8⟩ := sh_f hZ kv0 (j := 18) (k := 13) (m := 80) rfl
      have h := h b8 eb8
      refine j_getr E 12 18 rfl rfl (by decide) (by decide) (iw iT_12) rfl rfl (tw W_685) kv0 eb8 dX12_law_98 ?_
      refine j_iload_n E dX12_law_101 3 rfl ?_
      obtain ⟨o9, h⟩ := h
      refine j_bald E kb8 (by rw [lb8]; exact o9) dX12_law_102 ?_
      obtain ⟨o10, h⟩ := h
      refine j_bast E kb7 (by rw [lb7]; exact o10) dX12_law_103 ?_
      refine j_nmI (fun I11 eI11 => ?_)
      have h := h I11 eI11
      obtain ⟨x12, ex12⟩ : ∃ y : Int32, y = v3 + 1 := ⟨_, rfl⟩
      have h := h x12 ex12
      refine j_iinc E x12 [(3, .int x12), (0, .ref v0), (1, .int v1), (2, .int v2)] dX12_law_104 3 rfl (by rw [ex12]; rfl) (by decide) rfl ?_
      refine j_goto E 85 dX12_law_107 (by decide) ?_
      refine j_sub [1, 2, 3, 0] rfl ?_
      exact hK85 v0 v1 v2 x12 Z I11 L hZ hx kv0 h
set_option maxRecDepth 100000 in
def f_X12_law_b83  (Q : Int32 → jZ → jI → jL → Prop) (v0 : Nat) (v1 : Int32) (v2 : Int32) (Z : jZ) (I : jI) (L : jL) : Prop := (∃ m85 : Nat, f_X12_law_L85  Q m85 v0 v1 v2 (0 : Int32) Z I L)
set_option maxHeartbeats 4000000 in
set_option maxRecDepth 100000 in
theorem m_X12_law_b83 {G : jG} {Z0 : jZ} {Q : Int32 → jZ → jI → jL → Prop} (E : jE G cX12_law RX12 w_X12_law 4 (some .int) { frames := 2, cells := 0, slots := 0, locals := 41 } (xrtI Z0 Q))  (v0 : Nat) (v1 : Int32) (v2 : Int32) (Z : jZ) (I : jI) (L : jL) (hZ : SH Z) (hx : jext Z0 Z) (kv0 : jk Z v0 12) (h : f_X12_law_b83  Q v0 v1 v2 Z I L) : jJ G 4 83 [(0, .ref v0), (1, .int v1), (2, .int v2)] [] Z I L 0 0 := by
  refine j_iconst E (v := 0) dX12_law_83 (by decide) ?_
  refine j_istore_n E 3 [(3, .int (0 : Int32)), (0, .ref v0), (1, .int v1), (2, .int v2)] dX12_law_84 rfl (by decide) rfl ?_
  obtain ⟨n13, h⟩ := h
  refine j_sub [1, 2, 3, 0] rfl ?_
  exact m_X12_law_L85 E  n13 v0 v1 v2 (0 : Int32) Z I L hZ hx kv0 h
set_option maxRecDepth 100000 in
def f_X12_law_b69  (Q : Int32 → jZ → jI → jL → Prop) (v0 : Nat) (v1 : Int32) (v2 : Int32) (Z : jZ) (I : jI) (L : jL) : Prop := (f_X12_fine v0 Z I L (fun r19 I16 L17 => ((¬ r19 = 0 → f_X12_law_b83  Q v0 v1 v2 Z I16 L17) ∧ (r19 = 0 → Q ((-1 : Int32) - (I16 v0 27)) Z I16 L17))))
set_option maxHeartbeats 4000000 in
set_option maxRecDepth 100000 in
theorem m_X12_law_b69 {G : jG} {Z0 : jZ} {Q : Int32 → jZ → jI → jL → Prop} (E : jE G cX12_law RX12 w_X12_law 4 (some .int) { frames := 2, cells := 0, slots := 0, locals := 41 } (xrtI Z0 Q))  (v0 : Nat) (v1 : Int32) (v2 : Int32) (Z : jZ) (I : jI) (L : jL) (hZ : SH Z) (hx : jext Z0 Z) (kv0 : jk Z v0 12) (h : f_X12_law_b69  Q v0 v1 v2 Z I L) : jJ G 4 69 [(0, .ref v0), (1, .int v1), (2, .int v2)] [] Z I L 0 0 := by
  refine j_aload_n E dX12_law_69 0 rfl ?_
  refine j_callV E [] [] (c_X12_fine (gL G) (gD G) (gY G) v0 Z I L _ hZ kv0 h) (gwV W_692 W_693 W_694 W_679 W_691) rfl ⟨rfl, fy_X12_fine⟩ ⟨by decide, by decide⟩ (c := 12) rfl (by decide) kv0 rfl rfl (Nat.le_of_ble_eq_true rfl) ⟨Nat.zero_le _, Nat.zero_le _⟩ dX12_law_70 (fun v14 Z15 I16 L17 q18 => ?_)
  obtain ⟨rfl, r19, rfl, zr19, h⟩ := q18
  show jJ G 4 73 [(0, .ref v0), (1, .int v1), (2, .int v2)] [.int r19] Z I16 L17 0 0
  refine j_if_ne E 83 dX12_law_73 (by decide) (fun c20 => ?_) (fun c20 => ?_)
  · have h := h.1 c20
    refine j_sub [0, 1, 2] rfl ?_
    exact m_X12_law_b83 E  v0 v1 v2 Z I16 L17 hZ hx kv0 h
  · have h := h.2 c20
    refine j_iconst E (v := -1) dX12_law_76 (by decide) ?_
    refine j_aload_n E dX12_law_77 0 rfl ?_
    refine j_geti E 12 27 rfl rfl (by decide) (by decide) (iw iT_12) rfl rfl (tw W_690) kv0 dX12_law_78 ?_
    refine j_isub E dX12_law_81 ?_
    exact j_ireturn E ⟨hx, hZ, _, rfl, h⟩ (Nat.zero_le _) (Nat.zero_le _) dX12_law_82
set_option maxRecDepth 100000 in
def f_X12_law (v0 : Nat) (v1 : Int32) (Z : jZ) (I : jI) (L : jL) (Q : Int32 → jZ → jI → jL → Prop) : Prop := (∀ I21 : jI, I21 = jpI I v0 22 (0 : Int32) → (∀ x22 : Int32, x22 = (I21 v0 19) → (∀ b23 : Nat, jr Z v0 18 = some b23 → (f_X12_begin v0 b23 x22 (40 : Int32) Z I21 L (fun Z25 I26 L27 => (∀ I30 : jI, I30 = jpI I26 v0 19 (0 : Int32) → (f_X12_in v1 (0 : Int32) (1 : Int32) Z25 I30 L27 (fun r36 I33 L34 => ((¬ r36 = 0 → (∀ I38 : jI, I38 = jpI I33 v0 31 (-1 : Int32) → ((x22 ≤ 0 → f_X12_law_b83  Q v0 v1 x22 Z25 I38 L34) ∧ (¬ (x22 ≤ 0) → False)))) ∧ (r36 = 0 → Q (-100 : Int32) Z25 I33 L34))))))))))
set_option maxHeartbeats 4000000 in
set_option maxRecDepth 100000 in
theorem c_X12_law (l : Launch) (D : va_G) (cy : jC) (v0 : Nat) (v1 : Int32) (Z : jZ) (I : jI) (L : jL) (Q : Int32 → jZ → jI → jL → Prop) (hZ : SH Z) (kv0 : jk Z v0 12) (h : f_X12_law v0 v1 Z I L Q) : jCt l yX12_law w_X12_law { frames := 2, cells := 0, slots := 0, locals := 41 } D cy [.ref v0, .int v1] Z I L (xrtI Z Q) := by
  refine jCt_of (cc := cX12_law) (maxL := 4) (ret := (some .int)) (by decide +kernel) rfl (Nat.le_of_ble_eq_true rfl) ?_
  intro G eD eY eL E
  subst eD; subst eY; subst eL
  have E : jE G cX12_law RX12 w_X12_law 4 (some .int) { frames := 2, cells := 0, slots := 0, locals := 41 } (xrtI Z Q) := E
  have hx : jext Z Z := jext_rfl
  show jJ G 4 0 [(0, .ref v0), (1, .int v1)] [] Z I L 0 0
  refine j_aload_n E dX12_law_0 0 rfl ?_
  refine j_iconst E (v := 0) dX12_law_1 (by decide) ?_
  refine j_puti E 12 22 rfl rfl (by decide) (by decide) (iw iT_12) tyX12_ok nmX12 rfl rfl (tw W_674) rfl rfl rfl kv0 dX12_law_2 ?_
  refine j_nmI (fun I21 eI21 => ?_)
  have h := h I21 eI21
  refine j_aload_n E dX12_law_5 0 rfl ?_
  refine j_geti E 12 19 rfl rfl (by decide) (by decide) (iw iT_12) rfl rfl (tw W_684) kv0 dX12_law_6 ?_
  refine j_topi (fun x22 ex22 => ?_)
  have h := h x22 ex22
  refine j_istore_n E 2 [(2, .int x22), (0, .ref v0), (1, .int v1)] dX12_law_9 rfl (by decide) rfl ?_
  refine j_aload_n E dX12_law_10 1 rfl ?_
  refine j_aload_n E dX12_law_11 1 rfl ?_
  obtain ⟨b23, eb23, kb23, lb23⟩ := sh_f hZ kv0 (j := 18) (k := 13) (m := 80) rfl
  have h := h b23 eb23
  refine j_getr E 12 18 rfl rfl (by decide) (by decide) (iw iT_12) rfl rfl (tw W_685) kv0 eb23 dX12_law_12 ?_
  refine j_iload_n E dX12_law_15 0 rfl ?_
  refine j_bipush E (v := 40) dX12_law_16 (by decide) ?_
  refine j_callV E [.ref b23, .int x22, .int (40 : Int32)] [] (c_X12_begin (gL G) (gD G) (gY G) v0 b23 x22 (40 : Int32) Z I21 L _ hZ kv0 kb23 h) (gwV W_733 W_734 W_735 W_679 W_732) rfl ⟨rfl, fy_X12_begin⟩ ⟨by decide, by decide⟩ (c := 12) rfl (by decide) kv0 rfl rfl (Nat.le_of_ble_eq_true rfl) ⟨Nat.zero_le _, Nat.zero_le _⟩ dX12_law_18 (fun v24 Z25 I26 L27 q28 => ?_)
  obtain ⟨yZ25, hZ25, rfl, h⟩ := q28
  have hZ := hZ25
  have hx : jext Z Z25 := jext_trans hx yZ25
  have k29 := (yZ25 _ _ kv0).1
  show jJ G 4 21 [(2, .int x22), (0, .ref v0), (1, .int v1)] [] Z25 I26 L27 0 0
  refine j_aload_n E dX12_law_21 1 rfl ?_
  refine j_iconst E (v := 0) dX12_law_22 (by decide) ?_
  refine j_puti E 12 19 rfl rfl (by decide) (by decide) (iw iT_12) tyX12_ok nmX12 rfl rfl (tw W_684) rfl rfl rfl k29 dX12_law_23 ?_
  refine j_nmI (fun I30 eI30 => ?_)
  have h := h I30 eI30
  refine j_iload_n E dX12_law_26 2 rfl ?_
  refine j_iconst E (v := 0) dX12_law_27 (by decide) ?_
  refine j_iconst E (v := 1) dX12_law_28 (by decide) ?_
  refine j_callS E [.int v1, .int (0 : Int32), .int (1 : Int32)] [] (c_X12_in (gL G) (gD G) (gY G) v1 (0 : Int32) (1 : Int32) Z25 I30 L27 _ hZ  h) (gwS W_680 W_681 W_679 W_678) rfl fy_X12_in ⟨by decide, by decide⟩ rfl rfl (Nat.le_of_ble_eq_true rfl) ⟨Nat.zero_le _, Nat.zero_le _⟩ dX12_law_29 (fun v31 Z32 I33 L34 q35 => ?_)
  obtain ⟨rfl, r36, rfl, zr36, h⟩ := q35
  show jJ G 4 32 [(2, .int x22), (0, .ref v0), (1, .int v1)] [.int r36] Z25 I33 L34 0 0
  refine j_if_ne E 38 dX12_law_32 (by decide) (fun c37 => ?_) (fun c37 => ?_)
  · have h := h.1 c37
    refine j_aload_n E dX12_law_38 1 rfl ?_
    refine j_iconst E (v := -1) dX12_law_39 (by decide) ?_
    refine j_puti E 12 31 rfl rfl (by decide) (by decide) (iw iT_12) tyX12_ok nmX12 rfl rfl (tw W_736) rfl rfl rfl k29 dX12_law_40 ?_
    refine j_nmI (fun I38 eI38 => ?_)
    have h := h I38 eI38
    refine j_iload_n E dX12_law_43 0 rfl ?_
    refine j_if_le E 83 dX12_law_44 (by decide) (fun c39 => ?_) (fun c39 => ?_)
    · have h := h.1 c39
      refine j_sub [1, 2, 0] rfl ?_
      exact m_X12_law_b83 E  v0 v1 x22 Z25 I38 L34 hZ hx k29 h
    · have h := h.2 c39
      refine j_aload_n E dX12_law_47 1 rfl ?_
      refine j_iconst E (v := 0) dX12_law_48 (by decide) ?_
      exact h.elim
  · have h := h.2 c37
    refine j_bipush E (v := -100) dX12_law_35 (by decide) ?_
    exact j_ireturn E ⟨hx, hZ, _, rfl, h⟩ (Nat.zero_le _) (Nat.zero_le _) dX12_law_37
set_option maxRecDepth 100000 in
def f_X12_lawOf_b23  (Q : Int32 → jZ → jI → jL → Prop)  (Z : jZ) (I : jI) (L : jL) : Prop := Q (0 : Int32) Z I L
set_option maxHeartbeats 4000000 in
set_option maxRecDepth 100000 in
theorem m_X12_lawOf_b23 {G : jG} {Z0 : jZ} {Q : Int32 → jZ → jI → jL → Prop} (E : jE G cX12_lawOf RX12 w_X12_lawOf 6 (some .int) { frames := 1, cells := 0, slots := 0, locals := 23 } (xrtI Z0 Q))   (Z : jZ) (I : jI) (L : jL) (hZ : SH Z) (hx : jext Z0 Z)  (h : f_X12_lawOf_b23  Q  Z I L) : jJ G 6 23 [] [] Z I L 0 0 := by
  refine j_iconst E (v := 0) dX12_lawOf_23 (by decide) ?_
  refine j_goto E 33 dX12_lawOf_24 (by decide) ?_
  exact j_ireturn E ⟨hx, hZ, _, rfl, h⟩ (Nat.zero_le _) (Nat.zero_le _) dX12_lawOf_33
set_option maxRecDepth 100000 in
def f_X12_lawOf (v0 : Nat) (v1 : Int32) (v2 : Int32) (v3 : Int32) (v4 : Int32) (v5 : Int32) (Z : jZ) (I : jI) (L : jL) (Q : Int32 → jZ → jI → jL → Prop) : Prop := (∀ b1 : Nat, jr Z v0 30 = some b1 → (vp_in v1 2 ∧ ((¬ (I b1 v1.toNatClampNeg) = 0 → (∀ b4 : Nat, jr Z v0 29 = some b4 → (vp_in v1 2 ∧ (∀ b6 : Nat, jr Z b4 v1.toNatClampNeg = some b6 → (∀ b7 : Nat, jr Z v0 30 = some b7 → (vp_in v1 2 ∧ (f_X12_begin v0 b6 (I b7 v1.toNatClampNeg) (40 : Int32) Z I L (fun Z10 I11 L12 => (∀ I15 : jI, I15 = jpI I11 v0 31 v2 → (∀ I16 : jI, I16 = jpI I15 v0 32 v3 → (∀ I17 : jI, I17 = jpI I16 v0 33 v4 → (∀ I18 : jI, I18 = jpI I17 v0 34 v5 → False)))))))))))) ∧ ((I b1 v1.toNatClampNeg) = 0 → ((v1 = (1 : Int32) → f_X12_lawOf_b23  Q  Z I L) ∧ (¬ (v1 = (1 : Int32)) → (∀ b20 : Nat, jr Z v0 4 = some b20 → (vp_in v2 24 ∧ (((I b20 v2.toNatClampNeg) = 0 → (∀ b23 : Nat, jr Z v0 3 = some b23 → (vp_in v2 24 ∧ Q (I b23 v2.toNatClampNeg) Z I L))) ∧ (¬ ((I b20 v2.toNatClampNeg) = 0) → f_X12_lawOf_b23  Q  Z I L))))))))))
set_option maxHeartbeats 4000000 in
set_option maxRecDepth 100000 in
theorem c_X12_lawOf (l : Launch) (D : va_G) (cy : jC) (v0 : Nat) (v1 : Int32) (v2 : Int32) (v3 : Int32) (v4 : Int32) (v5 : Int32) (Z : jZ) (I : jI) (L : jL) (Q : Int32 → jZ → jI → jL → Prop) (hZ : SH Z) (kv0 : jk Z v0 12) (h : f_X12_lawOf v0 v1 v2 v3 v4 v5 Z I L Q) : jCt l yX12_lawOf w_X12_lawOf { frames := 1, cells := 0, slots := 0, locals := 23 } D cy [.ref v0, .int v1, .int v2, .int v3, .int v4, .int v5] Z I L (xrtI Z Q) := by
  refine jCt_of (cc := cX12_lawOf) (maxL := 6) (ret := (some .int)) (by decide +kernel) rfl (Nat.le_of_ble_eq_true rfl) ?_
  intro G eD eY eL E
  subst eD; subst eY; subst eL
  have E : jE G cX12_lawOf RX12 w_X12_lawOf 6 (some .int) { frames := 1, cells := 0, slots := 0, locals := 23 } (xrtI Z Q) := E
  have hx : jext Z Z := jext_rfl
  show jJ G 6 0 [(0, .ref v0), (1, .int v1), (2, .int v2), (3, .int v3), (4, .int v4), (5, .int v5)] [] Z I L 0 0
  refine j_aload_n E dX12_lawOf_0 0 rfl ?_
  obtain ⟨b1, eb1, kb1, lb1⟩ := sh_f hZ kv0 (j := 30) (k := 14) (m := 2) rfl
  have h := h b1 eb1
  refine j_getr E 12 30 rfl rfl (by decide) (by decide) (iw iT_12) rfl rfl (tw W_745) kv0 eb1 dX12_lawOf_1 ?_
  refine j_iload_n E dX12_lawOf_4 1 rfl ?_
  obtain ⟨o2, h⟩ := h
  refine j_iald E kb1 (by rw [lb1]; exact o2) dX12_lawOf_5 ?_
  refine j_if_ne E 34 dX12_lawOf_6 (by decide) (fun c3 => ?_) (fun c3 => ?_)
  · have h := h.1 c3
    refine j_aload_n E dX12_lawOf_34 0 rfl ?_
    refine j_aload_n E dX12_lawOf_35 0 rfl ?_
    obtain ⟨b4, eb4, kb4, lb4⟩ := sh_f hZ kv0 (j := 29) (k := 19) (m := 2) rfl
    have h := h b4 eb4
    refine j_getr E 12 29 rfl rfl (by decide) (by decide) (iw iT_12) rfl rfl (tw W_746) kv0 eb4 dX12_lawOf_36 ?_
    refine j_iload_n E dX12_lawOf_39 1 rfl ?_
    obtain ⟨o5, h⟩ := h
    refine j_aald19 E kb4 (by rw [lb4]; exact o5) dX12_lawOf_40 ?_
    obtain ⟨b6, eb6, kb6, lb6⟩ := sh_b hZ kb4 (by rw [lb4]; exact o5)
    have h := h b6 eb6
    refine j_rfS eb6 ?_
    refine j_aload_n E dX12_lawOf_41 0 rfl ?_
    obtain ⟨b7, eb7, kb7, lb7⟩ := sh_f hZ kv0 (j := 30) (k := 14) (m := 2) rfl
    have h := h b7 eb7
    refine j_getr E 12 30 rfl rfl (by decide) (by decide) (iw iT_12) rfl rfl (tw W_745) kv0 eb7 dX12_lawOf_42 ?_
    refine j_iload_n E dX12_lawOf_45 1 rfl ?_
    obtain ⟨o8, h⟩ := h
    refine j_iald E kb7 (by rw [lb7]; exact o8) dX12_lawOf_46 ?_
    refine j_bipush E (v := 40) dX12_lawOf_47 (by decide) ?_
    refine j_callV E [.ref b6, .int (I b7 v1.toNatClampNeg), .int (40 : Int32)] [] (c_X12_begin (gL G) (gD G) (gY G) v0 b6 (I b7 v1.toNatClampNeg) (40 : Int32) Z I L _ hZ kv0 kb6 h) (gwV W_733 W_734 W_735 W_679 W_732) rfl ⟨rfl, fy_X12_begin⟩ ⟨by decide, by decide⟩ (c := 12) rfl (by decide) kv0 rfl rfl (Nat.le_of_ble_eq_true rfl) ⟨Nat.zero_le _, Nat.zero_le _⟩ dX12_lawOf_49 (fun v9 Z10 I11 L12 q13 => ?_)
    obtain ⟨yZ10, hZ10, rfl, h⟩ := q13
    have hZ := hZ10
    have hx : jext Z Z10 := jext_trans hx yZ10
    have k14 := (yZ10 _ _ kv0).1
    show jJ G 6 52 [(0, .ref v0), (1, .int v1), (2, .int v2), (3, .int v3), (4, .int v4), (5, .int v5)] [] Z10 I11 L12 0 0
    refine j_aload_n E dX12_lawOf_52 0 rfl ?_
    refine j_iload_n E dX12_lawOf_53 2 rfl ?_
    refine j_puti E 12 31 rfl rfl (by decide) (by decide) (iw iT_12) tyX12_ok nmX12 rfl rfl (tw W_736) rfl rfl rfl k14 dX12_lawOf_54 ?_
    refine j_nmI (fun I15 eI15 => ?_)
    have h := h I15 eI15
    refine j_aload_n E dX12_lawOf_57 0 rfl ?_
    refine j_iload_n E dX12_lawOf_58 3 rfl ?_
    refine j_puti E 12 32 rfl rfl (by decide) (by decide) (iw iT_12) tyX12_ok nmX12 rfl rfl (tw W_738) rfl rfl rfl k14 dX12_lawOf_59 ?_
    refine j_nmI (fun I16 eI16 => ?_)
    have h := h I16 eI16
    refine j_aload_n E dX12_lawOf_62 0 rfl ?_
    refine j_iload E dX12_lawOf_63 4 rfl ?_
    refine j_puti E 12 33 rfl rfl (by decide) (by decide) (iw iT_12) tyX12_ok nmX12 rfl rfl (tw W_737) rfl rfl rfl k14 dX12_lawOf_65 ?_
    refine j_nmI (fun I17 eI17 => ?_)
    have h := h I17 eI17
    refine j_aload_n E dX12_lawOf_68 0 rfl ?_
    refine j_iload E dX12_lawOf_69 5 rfl ?_
    refine j_puti E 12 34 rfl rfl (by decide) (by decide) (iw iT_12) tyX12_ok nmX12 rfl rfl (tw W_744) rfl rfl rfl k14 dX12_lawOf_71 ?_
    refine j_nmI (fun I18 eI18 => ?_)
    have h := h I18 eI18
    refine j_iconst E (v := 0) dX12_lawOf_74 (by decide) ?_
    refine j_bipush E (v := 99) dX12_lawOf_75 (by decide) ?_
    refine j_aload_n E dX12_lawOf_77 0 rfl ?_
    refine j_iconst E (v := 0) dX12_lawOf_78 (by decide) ?_
    exact h.elim
  · have h := h.2 c3
    refine j_iload_n E dX12_lawOf_9 1 rfl ?_
    refine j_iconst E (v := 1) dX12_lawOf_10 (by decide) ?_
    refine j_icmp_eq E 23 dX12_lawOf_11 (by decide) (fun c19 => ?_) (fun c19 => ?_)
    · have h := h.1 c19
      refine j_sub [] rfl ?_
      exact m_X12_lawOf_b23 E   Z I L hZ hx  h
    · have h := h.2 c19
      refine j_aload_n E dX12_lawOf_14 0 rfl ?_
      obtain ⟨b20, eb20, kb20, lb20⟩ := sh_f hZ kv0 (j := 4) (k := 16) (m := 24) rfl
      have h := h b20 eb20
      refine j_getr E 12 4 rfl rfl (by decide) (by decide) (iw iT_12) rfl rfl (tw W_722) kv0 eb20 dX12_lawOf_15 ?_
      refine j_iload_n E dX12_lawOf_18 2 rfl ?_
      obtain ⟨o21, h⟩ := h
      refine j_zald E kb20 (by rw [lb20]; exact o21) dX12_lawOf_19 ?_
      refine j_if_eq E 27 dX12_lawOf_20 (by decide) (fun c22 => ?_) (fun c22 => ?_)
      · have h := h.1 c22
        refine j_aload_n E dX12_lawOf_27 0 rfl ?_
        obtain ⟨b23, eb23, kb23, lb23⟩ := sh_f hZ kv0 (j := 3) (k := 14) (m := 24) rfl
        have h := h b23 eb23
        refine j_getr E 12 3 rfl rfl (by decide) (by decide) (iw iT_12) rfl rfl (tw W_727) kv0 eb23 dX12_lawOf_28 ?_
        refine j_iload_n E dX12_lawOf_31 2 rfl ?_
        obtain ⟨o24, h⟩ := h
        refine j_iald E kb23 (by rw [lb23]; exact o24) dX12_lawOf_32 ?_
        exact j_ireturn E ⟨hx, hZ, _, rfl, h⟩ (Nat.zero_le _) (Nat.zero_le _) dX12_lawOf_33
      · have h := h.2 c22
        refine j_sub [] rfl ?_
        exact m_X12_lawOf_b23 E   Z I L hZ hx  h
set_option maxRecDepth 100000 in
def f_X12_step_b22  (Z : jZ) (Q : Int32 → jI → jL → Prop) (v0 : Nat) (I : jI) (L : jL) : Prop := (f_X12_lost v0 Z I L (fun r6 I3 L4 => Q r6 I3 L4))
set_option maxHeartbeats 4000000 in
set_option maxRecDepth 100000 in
theorem m_X12_step_b22 {G : jG} {Z : jZ} {Q : Int32 → jI → jL → Prop} (E : jE G cX12_step RX12 w_X12_step 3 (some .int) { frames := 2, cells := 0, slots := 0, locals := 43 } (rtI Z Q)) (hZ : SH Z)  (v0 : Nat) (I : jI) (L : jL) (kv0 : jk Z v0 12) (h : f_X12_step_b22  Z Q v0 I L) : jJ G 3 22 [(0, .ref v0)] [] Z I L 0 0 := by
  refine j_aload_n E dX12_step_22 0 rfl ?_
  refine j_callV E [] [] (c_X12_lost (gL G) (gD G) (gY G) v0 Z I L _ hZ kv0 h) (gwV W_748 W_749 W_750 W_679 W_747) rfl ⟨rfl, fy_X12_lost⟩ ⟨by decide, by decide⟩ (c := 12) rfl (by decide) kv0 rfl rfl (Nat.le_of_ble_eq_true rfl) ⟨Nat.zero_le _, Nat.zero_le _⟩ dX12_step_23 (fun v1 Z2 I3 L4 q5 => ?_)
  obtain ⟨rfl, r6, rfl, h⟩ := q5
  show jJ G 3 26 [(0, .ref v0)] [.int r6] Z I3 L4 0 0
  exact j_ireturn E ⟨rfl, _, rfl, h⟩ (Nat.zero_le _) (Nat.zero_le _) dX12_step_26
set_option maxRecDepth 100000 in
def f_X12_step (v0 : Nat) (v1 : Int32) (v2 : Int32) (Z : jZ) (I : jI) (L : jL) (Q : Int32 → jI → jL → Prop) : Prop := (∀ I7 : jI, I7 = jpI I v0 22 (0 : Int32) → (f_X12_isStep v0 v1 Z I7 L (fun r13 I10 L11 => ((r13 = 0 → f_X12_step_b22  Z Q v0 I10 L11) ∧ (¬ (r13 = 0) → (f_X12_in v2 (0 : Int32) (4 : Int32) Z I10 L11 (fun r20 I17 L18 => ((¬ r20 = 0 → ((¬ v2 = 0 → ((¬ v2 = (1 : Int32) → ((¬ v2 = (2 : Int32) → ((¬ v2 = (3 : Int32) → (f_X12_mainOf v0 v1 Z I17 L18 (fun r31 I28 L29 => Q r31 I28 L29))) ∧ (v2 = (3 : Int32) → (∀ b32 : Nat, jr Z v0 4 = some b32 → (vp_in v1 24 ∧ (((I17 b32 v1.toNatClampNeg) = 0 → Q (0 : Int32) I17 L18) ∧ (¬ ((I17 b32 v1.toNatClampNeg) = 0) → Q (1 : Int32) I17 L18))))))) ∧ (v2 = (2 : Int32) → (∀ b35 : Nat, jr Z v0 3 = some b35 → (vp_in v1 24 ∧ Q (I17 b35 v1.toNatClampNeg) I17 L18))))) ∧ (v2 = (1 : Int32) → (∀ b37 : Nat, jr Z v0 2 = some b37 → (vp_in v1 24 ∧ Q (I17 b37 v1.toNatClampNeg) I17 L18))))) ∧ (v2 = 0 → (∀ b39 : Nat, jr Z v0 1 = some b39 → (vp_in v1 24 ∧ Q (I17 b39 v1.toNatClampNeg) I17 L18))))) ∧ (r20 = 0 → f_X12_step_b22  Z Q v0 I17 L18)))))))))
set_option maxHeartbeats 4000000 in
set_option maxRecDepth 100000 in
theorem c_X12_step (l : Launch) (D : va_G) (cy : jC) (v0 : Nat) (v1 : Int32) (v2 : Int32) (Z : jZ) (I : jI) (L : jL) (Q : Int32 → jI → jL → Prop) (hZ : SH Z) (kv0 : jk Z v0 12) (h : f_X12_step v0 v1 v2 Z I L Q) : jCt l yX12_step w_X12_step { frames := 2, cells := 0, slots := 0, locals := 43 } D cy [.ref v0, .int v1, .int v2] Z I L (rtI Z Q) := by
  refine jCt_of (cc := cX12_step) (maxL := 3) (ret := (some .int)) (by decide +kernel) rfl (Nat.le_of_ble_eq_true rfl) ?_
  intro G eD eY eL E
  subst eD; subst eY; subst eL
  have E : jE G cX12_step RX12 w_X12_step 3 (some .int) { frames := 2, cells := 0, slots := 0, locals := 43 } (rtI Z Q) := E
  show jJ G 3 0 [(0, .ref v0), (1, .int v1), (2, .int v2)] [] Z I L 0 0
  refine j_aload_n E dX12_step_0 0 rfl ?_
  refine j_iconst E (v := 0) dX12_step_1 (by decide) ?_
  refine j_puti E 12 22 rfl rfl (by decide) (by decide) (iw iT_12) tyX12_ok nmX12 rfl rfl (tw W_674) rfl rfl rfl kv0 dX12_step_2 ?_
  refine j_nmI (fun I7 eI7 => ?_)
  have h := h I7 eI7
  refine j_aload_n E dX12_step_5 0 rfl ?_
  refine j_iload_n E dX12_step_6 1 rfl ?_
  refine j_callV E [.int v1] [] (c_X12_isStep (gL G) (gD G) (gY G) v0 v1 Z I7 L _ hZ kv0 h) (gwV W_752 W_753 W_754 W_679 W_751) rfl ⟨rfl, fy_X12_isStep⟩ ⟨by decide, by decide⟩ (c := 12) rfl (by decide) kv0 rfl rfl (Nat.le_of_ble_eq_true rfl) ⟨Nat.zero_le _, Nat.zero_le _⟩ dX12_step_7 (fun v8 Z9 I10 L11 q12 => ?_)
  obtain ⟨rfl, r13, rfl, zr13, h⟩ := q12
  show jJ G 3 10 [(0, .ref v0), (1, .int v1), (2, .int v2)] [.int r13] Z I10 L11 0 0
  refine j_if_eq E 22 dX12_step_10 (by decide) (fun c14 => ?_) (fun c14 => ?_)
  · have h := h.1 c14
    refine j_sub [0] rfl ?_
    exact m_X12_step_b22 E hZ  v0 I10 L11 kv0 h
  · have h := h.2 c14
    refine j_iload_n E dX12_step_13 2 rfl ?_
    refine j_iconst E (v := 0) dX12_step_14 (by decide) ?_
    refine j_iconst E (v := 4) dX12_step_15 (by decide) ?_
    refine j_callS E [.int v2, .int (0 : Int32), .int (4 : Int32)] [] (c_X12_in (gL G) (gD G) (gY G) v2 (0 : Int32) (4 : Int32) Z I10 L11 _ hZ  h) (gwS W_680 W_681 W_679 W_678) rfl fy_X12_in ⟨by decide, by decide⟩ rfl rfl (Nat.le_of_ble_eq_true rfl) ⟨Nat.zero_le _, Nat.zero_le _⟩ dX12_step_16 (fun v15 Z16 I17 L18 q19 => ?_)
    obtain ⟨rfl, r20, rfl, zr20, h⟩ := q19
    show jJ G 3 19 [(0, .ref v0), (1, .int v1), (2, .int v2)] [.int r20] Z I17 L18 0 0
    refine j_if_ne E 27 dX12_step_19 (by decide) (fun c21 => ?_) (fun c21 => ?_)
    · have h := h.1 c21
      refine j_iload_n E dX12_step_27 2 rfl ?_
      refine j_if_ne E 40 dX12_step_28 (by decide) (fun c22 => ?_) (fun c22 => ?_)
      · have h := h.1 c22
        refine j_iload_n E dX12_step_40 2 rfl ?_
        refine j_iconst E (v := 1) dX12_step_41 (by decide) ?_
        refine j_icmp_ne E 54 dX12_step_42 (by decide) (fun c23 => ?_) (fun c23 => ?_)
        · have h := h.1 c23
          refine j_iload_n E dX12_step_54 2 rfl ?_
          refine j_iconst E (v := 2) dX12_step_55 (by decide) ?_
          refine j_icmp_ne E 68 dX12_step_56 (by decide) (fun c24 => ?_) (fun c24 => ?_)
          · have h := h.1 c24
            refine j_iload_n E dX12_step_68 2 rfl ?_
            refine j_iconst E (v := 3) dX12_step_69 (by decide) ?_
            refine j_icmp_ne E 90 dX12_step_70 (by decide) (fun c25 => ?_) (fun c25 => ?_)
            · have h := h.1 c25
              refine j_aload_n E dX12_step_90 0 rfl ?_
              refine j_iload_n E dX12_step_91 1 rfl ?_
              refine j_callV E [.int v1] [] (c_X12_mainOf (gL G) (gD G) (gY G) v0 v1 Z I17 L18 _ hZ kv0 h) (gwV W_741 W_742 W_743 W_679 W_740) rfl ⟨rfl, fy_X12_mainOf⟩ ⟨by decide, by decide⟩ (c := 12) rfl (by decide) kv0 rfl rfl (Nat.le_of_ble_eq_true rfl) ⟨Nat.zero_le _, Nat.zero_le _⟩ dX12_step_92 (fun v26 Z27 I28 L29 q30 => ?_)
              obtain ⟨rfl, r31, rfl, h⟩ := q30
              show jJ G 3 95 [(0, .ref v0), (1, .int v1), (2, .int v2)] [.int r31] Z I28 L29 0 0
              exact j_ireturn E ⟨rfl, _, rfl, h⟩ (Nat.zero_le _) (Nat.zero_le _) dX12_step_95
            · have h := h.2 c25
              refine j_aload_n E dX12_step_73 0 rfl ?_
              obtain ⟨b32, eb32, kb32, lb32⟩ := sh_f hZ kv0 (j := 4) (k := 16) (m := 24) rfl
              have h := h b32 eb32
              refine j_getr E 12 4 rfl rfl (by decide) (by decide) (iw iT_12) rfl rfl (tw W_722) kv0 eb32 dX12_step_74 ?_
              refine j_iload_n E dX12_step_77 1 rfl ?_
              obtain ⟨o33, h⟩ := h
              refine j_zald E kb32 (by rw [lb32]; exact o33) dX12_step_78 ?_
              refine j_if_eq E 86 dX12_step_79 (by decide) (fun c34 => ?_) (fun c34 => ?_)
              · have h := h.1 c34
                refine j_iconst E (v := 0) dX12_step_86 (by decide) ?_
                refine j_goto E 95 dX12_step_87 (by decide) ?_
                exact j_ireturn E ⟨rfl, _, rfl, h⟩ (Nat.zero_le _) (Nat.zero_le _) dX12_step_95
              · have h := h.2 c34
                refine j_iconst E (v := 1) dX12_step_82 (by decide) ?_
                refine j_goto E 95 dX12_step_83 (by decide) ?_
                exact j_ireturn E ⟨rfl, _, rfl, h⟩ (Nat.zero_le _) (Nat.zero_le _) dX12_step_95
          · have h := h.2 c24
            refine j_aload_n E dX12_step_59 0 rfl ?_
            obtain ⟨b35, eb35, kb35, lb35⟩ := sh_f hZ kv0 (j := 3) (k := 14) (m := 24) rfl
            have h := h b35 eb35
            refine j_getr E 12 3 rfl rfl (by decide) (by decide) (iw iT_12) rfl rfl (tw W_727) kv0 eb35 dX12_step_60 ?_
            refine j_iload_n E dX12_step_63 1 rfl ?_
            obtain ⟨o36, h⟩ := h
            refine j_iald E kb35 (by rw [lb35]; exact o36) dX12_step_64 ?_
            refine j_goto E 95 dX12_step_65 (by decide) ?_
            exact j_ireturn E ⟨rfl, _, rfl, h⟩ (Nat.zero_le _) (Nat.zero_le _) dX12_step_95
        · have h := h.2 c23
          refine j_aload_n E dX12_step_45 0 rfl ?_
          obtain ⟨b37, eb37, kb37, lb37⟩ := sh_f hZ kv0 (j := 2) (k := 14) (m := 24) rfl
          have h := h b37 eb37
          refine j_getr E 12 2 rfl rfl (by decide) (by decide) (iw iT_12) rfl rfl (tw W_726) kv0 eb37 dX12_step_46 ?_
          refine j_iload_n E dX12_step_49 1 rfl ?_
          obtain ⟨o38, h⟩ := h
          refine j_iald E kb37 (by rw [lb37]; exact o38) dX12_step_50 ?_
          refine j_goto E 95 dX12_step_51 (by decide) ?_
          exact j_ireturn E ⟨rfl, _, rfl, h⟩ (Nat.zero_le _) (Nat.zero_le _) dX12_step_95
      · have h := h.2 c22
        refine j_aload_n E dX12_step_31 0 rfl ?_
        obtain ⟨b39, eb39, kb39, lb39⟩ := sh_f hZ kv0 (j := 1) (k := 14) (m := 24) rfl
        have h := h b39 eb39
        refine j_getr E 12 1 rfl rfl (by decide) (by decide) (iw iT_12) rfl rfl (tw W_725) kv0 eb39 dX12_step_32 ?_
        refine j_iload_n E dX12_step_35 1 rfl ?_
        obtain ⟨o40, h⟩ := h
        refine j_iald E kb39 (by rw [lb39]; exact o40) dX12_step_36 ?_
        refine j_goto E 95 dX12_step_37 (by decide) ?_
        exact j_ireturn E ⟨rfl, _, rfl, h⟩ (Nat.zero_le _) (Nat.zero_le _) dX12_step_95
    · have h := h.2 c21
      refine j_sub [0] rfl ?_
      exact m_X12_step_b22 E hZ  v0 I17 L18 kv0 h
set_option maxRecDepth 100000 in
def f_X12_set_b62  (Z : jZ) (Q : Int32 → jI → jL → Prop) (v0 : Nat) (v1 : Int32) (v2 : Int32) (v3 : Int32) (s0 : Int32) (I : jI) (L : jL) : Prop := ((¬ v2 = 0 → (∀ b2 : Nat, jr Z v0 2 = some b2 → (vp_in v1 24 ∧ (∀ I4 : jI, I4 = jpI I b2 v1.toNatClampNeg v3 → Q s0 I4 L)))) ∧ (v2 = 0 → (∀ b5 : Nat, jr Z v0 3 = some b5 → (vp_in v1 24 ∧ (∀ I7 : jI, I7 = jpI I b5 v1.toNatClampNeg v3 → Q s0 I7 L)))))
set_option maxHeartbeats 4000000 in
set_option maxRecDepth 100000 in
theorem m_X12_set_b62 {G : jG} {Z : jZ} {Q : Int32 → jI → jL → Prop} (E : jE G cX12_set RX12 w_X12_set 5 (some .int) { frames := 2, cells := 0, slots := 0, locals := 43 } (rtI Z Q)) (hZ : SH Z)  (v0 : Nat) (v1 : Int32) (v2 : Int32) (v3 : Int32) (s0 : Int32) (I : jI) (L : jL) (kv0 : jk Z v0 12) (h : f_X12_set_b62  Z Q v0 v1 v2 v3 s0 I L) : jJ G 5 62 [(0, .ref v0), (1, .int v1), (2, .int v2), (3, .int v3)] [.int s0] Z I L 0 0 := by
  refine j_istore E 4 [(4, .int s0), (0, .ref v0), (1, .int v1), (2, .int v2), (3, .int v3)] dX12_set_62 (by decide) rfl ?_
  refine j_iload_n E dX12_set_64 3 rfl ?_
  refine j_if_ne E 78 dX12_set_65 (by decide) (fun c1 => ?_) (fun c1 => ?_)
  · have h := h.1 c1
    refine j_aload_n E dX12_set_78 1 rfl ?_
    obtain ⟨b2, eb2, kb2, lb2⟩ := sh_f hZ kv0 (j := 2) (k := 14) (m := 24) rfl
    have h := h b2 eb2
    refine j_getr E 12 2 rfl rfl (by decide) (by decide) (iw iT_12) rfl rfl (tw W_726) kv0 eb2 dX12_set_79 ?_
    refine j_iload_n E dX12_set_82 2 rfl ?_
    refine j_iload_n E dX12_set_83 4 rfl ?_
    obtain ⟨o3, h⟩ := h
    refine j_iast E kb2 (by rw [lb2]; exact o3) dX12_set_84 ?_
    refine j_nmI (fun I4 eI4 => ?_)
    have h := h I4 eI4
    refine j_iload E dX12_set_85 0 rfl ?_
    exact j_ireturn E ⟨rfl, _, rfl, h⟩ (Nat.zero_le _) (Nat.zero_le _) dX12_set_87
  · have h := h.2 c1
    refine j_aload_n E dX12_set_68 1 rfl ?_
    obtain ⟨b5, eb5, kb5, lb5⟩ := sh_f hZ kv0 (j := 3) (k := 14) (m := 24) rfl
    have h := h b5 eb5
    refine j_getr E 12 3 rfl rfl (by decide) (by decide) (iw iT_12) rfl rfl (tw W_727) kv0 eb5 dX12_set_69 ?_
    refine j_iload_n E dX12_set_72 2 rfl ?_
    refine j_iload_n E dX12_set_73 4 rfl ?_
    obtain ⟨o6, h⟩ := h
    refine j_iast E kb5 (by rw [lb5]; exact o6) dX12_set_74 ?_
    refine j_nmI (fun I7 eI7 => ?_)
    have h := h I7 eI7
    refine j_goto E 85 dX12_set_75 (by decide) ?_
    refine j_iload E dX12_set_85 0 rfl ?_
    exact j_ireturn E ⟨rfl, _, rfl, h⟩ (Nat.zero_le _) (Nat.zero_le _) dX12_set_87
set_option maxRecDepth 100000 in
def f_X12_set_b35  (Z : jZ) (Q : Int32 → jI → jL → Prop) (v0 : Nat) (v1 : Int32) (v2 : Int32) (v3 : Int32) (s0 : Int32) (s1 : Int32) (s2 : Int32) (I : jI) (L : jL) : Prop := (f_X12_in s0 s1 s2 Z I L (fun r13 I10 L11 => ((¬ r13 = 0 → ((¬ v2 = 0 → (∀ b16 : Nat, jr Z v0 2 = some b16 → (vp_in v1 24 ∧ f_X12_set_b62  Z Q v0 v1 v2 v3 (I10 b16 v1.toNatClampNeg) I10 L11))) ∧ (v2 = 0 → (∀ b18 : Nat, jr Z v0 3 = some b18 → (vp_in v1 24 ∧ f_X12_set_b62  Z Q v0 v1 v2 v3 (I10 b18 v1.toNatClampNeg) I10 L11))))) ∧ (r13 = 0 → Q (-1 : Int32) I10 L11))))
set_option maxHeartbeats 4000000 in
set_option maxRecDepth 100000 in
theorem m_X12_set_b35 {G : jG} {Z : jZ} {Q : Int32 → jI → jL → Prop} (E : jE G cX12_set RX12 w_X12_set 5 (some .int) { frames := 2, cells := 0, slots := 0, locals := 43 } (rtI Z Q)) (hZ : SH Z)  (v0 : Nat) (v1 : Int32) (v2 : Int32) (v3 : Int32) (s0 : Int32) (s1 : Int32) (s2 : Int32) (I : jI) (L : jL) (kv0 : jk Z v0 12) (h : f_X12_set_b35  Z Q v0 v1 v2 v3 s0 s1 s2 I L) : jJ G 5 35 [(0, .ref v0), (1, .int v1), (2, .int v2), (3, .int v3)] [.int s2, .int s1, .int s0] Z I L 0 0 := by
  refine j_callS E [.int s0, .int s1, .int s2] [] (c_X12_in (gL G) (gD G) (gY G) s0 s1 s2 Z I L _ hZ  h) (gwS W_680 W_681 W_679 W_678) rfl fy_X12_in ⟨by decide, by decide⟩ rfl rfl (Nat.le_of_ble_eq_true rfl) ⟨Nat.zero_le _, Nat.zero_le _⟩ dX12_set_35 (fun v8 Z9 I10 L11 q12 => ?_)
  obtain ⟨rfl, r13, rfl, zr13, h⟩ := q12
  show jJ G 5 38 [(0, .ref v0), (1, .int v1), (2, .int v2), (3, .int v3)] [.int r13] Z I10 L11 0 0
  refine j_if_ne E 43 dX12_set_38 (by decide) (fun c14 => ?_) (fun c14 => ?_)
  · have h := h.1 c14
    refine j_iload_n E dX12_set_43 2 rfl ?_
    refine j_if_ne E 56 dX12_set_44 (by decide) (fun c15 => ?_) (fun c15 => ?_)
    · have h := h.1 c15
      refine j_aload_n E dX12_set_56 0 rfl ?_
      obtain ⟨b16, eb16, kb16, lb16⟩ := sh_f hZ kv0 (j := 2) (k := 14) (m := 24) rfl
      have h := h b16 eb16
      refine j_getr E 12 2 rfl rfl (by decide) (by decide) (iw iT_12) rfl rfl (tw W_726) kv0 eb16 dX12_set_57 ?_
      refine j_iload_n E dX12_set_60 1 rfl ?_
      obtain ⟨o17, h⟩ := h
      refine j_iald E kb16 (by rw [lb16]; exact o17) dX12_set_61 ?_
      refine j_sub [0, 1, 2, 3] rfl ?_
      exact m_X12_set_b62 E hZ  v0 v1 v2 v3 (I10 b16 v1.toNatClampNeg) I10 L11 kv0 h
    · have h := h.2 c15
      refine j_aload_n E dX12_set_47 0 rfl ?_
      obtain ⟨b18, eb18, kb18, lb18⟩ := sh_f hZ kv0 (j := 3) (k := 14) (m := 24) rfl
      have h := h b18 eb18
      refine j_getr E 12 3 rfl rfl (by decide) (by decide) (iw iT_12) rfl rfl (tw W_727) kv0 eb18 dX12_set_48 ?_
      refine j_iload_n E dX12_set_51 1 rfl ?_
      obtain ⟨o19, h⟩ := h
      refine j_iald E kb18 (by rw [lb18]; exact o19) dX12_set_52 ?_
      refine j_goto E 62 dX12_set_53 (by decide) ?_
      refine j_sub [0, 1, 2, 3] rfl ?_
      exact m_X12_set_b62 E hZ  v0 v1 v2 v3 (I10 b18 v1.toNatClampNeg) I10 L11 kv0 h
  · have h := h.2 c14
    refine j_iconst E (v := -1) dX12_set_41 (by decide) ?_
    exact j_ireturn E ⟨rfl, _, rfl, h⟩ (Nat.zero_le _) (Nat.zero_le _) dX12_set_42
set_option maxRecDepth 100000 in
def f_X12_set (v0 : Nat) (v1 : Int32) (v2 : Int32) (v3 : Int32) (Z : jZ) (I : jI) (L : jL) (Q : Int32 → jI → jL → Prop) : Prop := (∀ I20 : jI, I20 = jpI I v0 22 (0 : Int32) → (f_X12_isStep v0 v1 Z I20 L (fun r26 I23 L24 => ((r26 = 0 → Q (-1 : Int32) I23 L24) ∧ (¬ (r26 = 0) → (f_X12_in v2 (0 : Int32) (1 : Int32) Z I23 L24 (fun r33 I30 L31 => ((r33 = 0 → Q (-1 : Int32) I30 L31) ∧ (¬ (r33 = 0) → ((¬ v2 = 0 → f_X12_set_b35  Z Q v0 v1 v2 v3 v3 (0 : Int32) (9 : Int32) I30 L31) ∧ (v2 = 0 → f_X12_set_b35  Z Q v0 v1 v2 v3 v3 (0 : Int32) (20 : Int32) I30 L31)))))))))))
set_option maxHeartbeats 4000000 in
set_option maxRecDepth 100000 in
theorem c_X12_set (l : Launch) (D : va_G) (cy : jC) (v0 : Nat) (v1 : Int32) (v2 : Int32) (v3 : Int32) (Z : jZ) (I : jI) (L : jL) (Q : Int32 → jI → jL → Prop) (hZ : SH Z) (kv0 : jk Z v0 12) (h : f_X12_set v0 v1 v2 v3 Z I L Q) : jCt l yX12_set w_X12_set { frames := 2, cells := 0, slots := 0, locals := 43 } D cy [.ref v0, .int v1, .int v2, .int v3] Z I L (rtI Z Q) := by
  refine jCt_of (cc := cX12_set) (maxL := 5) (ret := (some .int)) (by decide +kernel) rfl (Nat.le_of_ble_eq_true rfl) ?_
  intro G eD eY eL E
  subst eD; subst eY; subst eL
  have E : jE G cX12_set RX12 w_X12_set 5 (some .int) { frames := 2, cells := 0, slots := 0, locals := 43 } (rtI Z Q) := E
  show jJ G 5 0 [(0, .ref v0), (1, .int v1), (2, .int v2), (3, .int v3)] [] Z I L 0 0
  refine j_aload_n E dX12_set_0 0 rfl ?_
  refine j_iconst E (v := 0) dX12_set_1 (by decide) ?_
  refine j_puti E 12 22 rfl rfl (by decide) (by decide) (iw iT_12) tyX12_ok nmX12 rfl rfl (tw W_674) rfl rfl rfl kv0 dX12_set_2 ?_
  refine j_nmI (fun I20 eI20 => ?_)
  have h := h I20 eI20
  refine j_aload_n E dX12_set_5 0 rfl ?_
  refine j_iload_n E dX12_set_6 1 rfl ?_
  refine j_callV E [.int v1] [] (c_X12_isStep (gL G) (gD G) (gY G) v0 v1 Z I20 L _ hZ kv0 h) (gwV W_752 W_753 W_754 W_679 W_751) rfl ⟨rfl, fy_X12_isStep⟩ ⟨by decide, by decide⟩ (c := 12) rfl (by decide) kv0 rfl rfl (Nat.le_of_ble_eq_true rfl) ⟨Nat.zero_le _, Nat.zero_le _⟩ dX12_set_7 (fun v21 Z22 I23 L24 q25 => ?_)
  obtain ⟨rfl, r26, rfl, zr26, h⟩ := q25
  show jJ G 5 10 [(0, .ref v0), (1, .int v1), (2, .int v2), (3, .int v3)] [.int r26] Z I23 L24 0 0
  refine j_if_eq E 41 dX12_set_10 (by decide) (fun c27 => ?_) (fun c27 => ?_)
  · have h := h.1 c27
    refine j_iconst E (v := -1) dX12_set_41 (by decide) ?_
    exact j_ireturn E ⟨rfl, _, rfl, h⟩ (Nat.zero_le _) (Nat.zero_le _) dX12_set_42
  · have h := h.2 c27
    refine j_iload_n E dX12_set_13 2 rfl ?_
    refine j_iconst E (v := 0) dX12_set_14 (by decide) ?_
    refine j_iconst E (v := 1) dX12_set_15 (by decide) ?_
    refine j_callS E [.int v2, .int (0 : Int32), .int (1 : Int32)] [] (c_X12_in (gL G) (gD G) (gY G) v2 (0 : Int32) (1 : Int32) Z I23 L24 _ hZ  h) (gwS W_680 W_681 W_679 W_678) rfl fy_X12_in ⟨by decide, by decide⟩ rfl rfl (Nat.le_of_ble_eq_true rfl) ⟨Nat.zero_le _, Nat.zero_le _⟩ dX12_set_16 (fun v28 Z29 I30 L31 q32 => ?_)
    obtain ⟨rfl, r33, rfl, zr33, h⟩ := q32
    show jJ G 5 19 [(0, .ref v0), (1, .int v1), (2, .int v2), (3, .int v3)] [.int r33] Z I30 L31 0 0
    refine j_if_eq E 41 dX12_set_19 (by decide) (fun c34 => ?_) (fun c34 => ?_)
    · have h := h.1 c34
      refine j_iconst E (v := -1) dX12_set_41 (by decide) ?_
      exact j_ireturn E ⟨rfl, _, rfl, h⟩ (Nat.zero_le _) (Nat.zero_le _) dX12_set_42
    · have h := h.2 c34
      refine j_iload_n E dX12_set_22 3 rfl ?_
      refine j_iconst E (v := 0) dX12_set_23 (by decide) ?_
      refine j_iload_n E dX12_set_24 2 rfl ?_
      refine j_if_ne E 33 dX12_set_25 (by decide) (fun c35 => ?_) (fun c35 => ?_)
      · have h := h.1 c35
        refine j_bipush E (v := 9) dX12_set_33 (by decide) ?_
        refine j_sub [0, 1, 2, 3] rfl ?_
        exact m_X12_set_b35 E hZ  v0 v1 v2 v3 v3 (0 : Int32) (9 : Int32) I30 L31 kv0 h
      · have h := h.2 c35
        refine j_bipush E (v := 20) dX12_set_28 (by decide) ?_
        refine j_goto E 35 dX12_set_30 (by decide) ?_
        refine j_sub [0, 1, 2, 3] rfl ?_
        exact m_X12_set_b35 E hZ  v0 v1 v2 v3 v3 (0 : Int32) (20 : Int32) I30 L31 kv0 h
set_option maxRecDepth 100000 in
def f_X12_sheet_b109 (K43 : Nat → Int32 → Int32 → Int32 → Int32 → Int32 → Int32 → jI → jL → Prop) (Z : jZ) (Q : Int32 → jI → jL → Prop) (v0 : Nat) (v1 : Int32) (v2 : Int32) (v4 : Int32) (v5 : Int32) (v6 : Int32) (v7 : Int32) (s0 : Nat) (s1 : Int32) (s2 : Int32) (I : jI) (L : jL) : Prop := (vp_in s1 (jlen Z s0) ∧ (∀ I2 : jI, I2 = jpI I s0 s1.toNatClampNeg s2 → (∀ b3 : Nat, jr Z v0 3 = some b3 → (vp_in v7 24 ∧ (∀ x5 : Int32, x5 = (v5 + (I2 b3 v7.toNatClampNeg)) → (∀ x6 : Int32, x6 = (v6 + v4) → (∀ x7 : Int32, x7 = v7 + 1 → K43 v0 v1 v2 v4 x5 x6 x7 I2 L)))))))
set_option maxHeartbeats 4000000 in
set_option maxRecDepth 100000 in
theorem m_X12_sheet_b109 {G : jG} {Z : jZ} {Q : Int32 → jI → jL → Prop} (E : jE G cX12_sheet RX12 w_X12_sheet 9 (some .int) { frames := 1, cells := 0, slots := 0, locals := 23 } (rtI Z Q)) (hZ : SH Z) (K43 : Nat → Int32 → Int32 → Int32 → Int32 → Int32 → Int32 → jI → jL → Prop) (hK43 : ∀ (v0 : Nat) (v1 : Int32) (v2 : Int32) (v4 : Int32) (v5 : Int32) (v6 : Int32) (v7 : Int32) (I : jI) (L : jL), jk Z v0 12 → K43 v0 v1 v2 v4 v5 v6 v7 I L → jJ G 9 43 [(0, .ref v0), (1, .int v1), (2, .int v2), (4, .int v4), (5, .int v5), (6, .int v6), (7, .int v7)] [] Z I L 0 0) (v0 : Nat) (v1 : Int32) (v2 : Int32) (v4 : Int32) (v5 : Int32) (v6 : Int32) (v7 : Int32) (s0 : Nat) (s1 : Int32) (s2 : Int32) (I : jI) (L : jL) (kv0 : jk Z v0 12) (ks0 : jk Z s0 14) (h : f_X12_sheet_b109 K43 Z Q v0 v1 v2 v4 v5 v6 v7 s0 s1 s2 I L) : jJ G 9 109 [(0, .ref v0), (1, .int v1), (2, .int v2), (4, .int v4), (5, .int v5), (6, .int v6), (7, .int v7)] [.int s2, .int s1, .ref s0] Z I L 0 0 := by
  obtain ⟨o1, h⟩ := h
  refine j_iast E ks0 o1 dX12_sheet_109 ?_
  refine j_nmI (fun I2 eI2 => ?_)
  have h := h I2 eI2
  refine j_iload E dX12_sheet_110 4 rfl ?_
  refine j_aload_n E dX12_sheet_112 0 rfl ?_
  obtain ⟨b3, eb3, kb3, lb3⟩ := sh_f hZ kv0 (j := 3) (k := 14) (m := 24) rfl
  have h := h b3 eb3
  refine j_getr E 12 3 rfl rfl (by decide) (by decide) (iw iT_12) rfl rfl (tw W_727) kv0 eb3 dX12_sheet_113 ?_
  refine j_iload E dX12_sheet_116 6 rfl ?_
  obtain ⟨o4, h⟩ := h
  refine j_iald E kb3 (by rw [lb3]; exact o4) dX12_sheet_118 ?_
  refine j_iadd E dX12_sheet_119 ?_
  refine j_topi (fun x5 ex5 => ?_)
  have h := h x5 ex5
  refine j_istore E 5 [(5, .int x5), (0, .ref v0), (1, .int v1), (2, .int v2), (4, .int v4), (6, .int v6), (7, .int v7)] dX12_sheet_120 (by decide) rfl ?_
  refine j_iload E dX12_sheet_122 5 rfl ?_
  refine j_iload E dX12_sheet_124 4 rfl ?_
  refine j_iadd E dX12_sheet_126 ?_
  refine j_topi (fun x6 ex6 => ?_)
  have h := h x6 ex6
  refine j_istore E 6 [(6, .int x6), (5, .int x5), (0, .ref v0), (1, .int v1), (2, .int v2), (4, .int v4), (7, .int v7)] dX12_sheet_127 (by decide) rfl ?_
  obtain ⟨x7, ex7⟩ : ∃ y : Int32, y = v7 + 1 := ⟨_, rfl⟩
  have h := h x7 ex7
  refine j_iinc E x7 [(7, .int x7), (6, .int x6), (5, .int x5), (0, .ref v0), (1, .int v1), (2, .int v2), (4, .int v4)] dX12_sheet_129 6 rfl (by rw [ex7]; rfl) (by decide) rfl ?_
  refine j_goto E 43 dX12_sheet_132 (by decide) ?_
  refine j_sub [3, 4, 5, 6, 2, 1, 0] rfl ?_
  exact hK43 v0 v1 v2 v4 x5 x6 x7 I2 L kv0 h
set_option maxRecDepth 100000 in
def f_X12_sheet_b94 (K43 : Nat → Int32 → Int32 → Int32 → Int32 → Int32 → Int32 → jI → jL → Prop) (Z : jZ) (Q : Int32 → jI → jL → Prop) (v0 : Nat) (v1 : Int32) (v2 : Int32) (v4 : Int32) (v5 : Int32) (v6 : Int32) (v7 : Int32) (s0 : Nat) (s1 : Int32) (I : jI) (L : jL) : Prop := f_X12_sheet_b109 K43 Z Q v0 v1 v2 v4 v5 v6 v7 s0 s1 (0 : Int32) I L
set_option maxHeartbeats 4000000 in
set_option maxRecDepth 100000 in
theorem m_X12_sheet_b94 {G : jG} {Z : jZ} {Q : Int32 → jI → jL → Prop} (E : jE G cX12_sheet RX12 w_X12_sheet 9 (some .int) { frames := 1, cells := 0, slots := 0, locals := 23 } (rtI Z Q)) (hZ : SH Z) (K43 : Nat → Int32 → Int32 → Int32 → Int32 → Int32 → Int32 → jI → jL → Prop) (hK43 : ∀ (v0 : Nat) (v1 : Int32) (v2 : Int32) (v4 : Int32) (v5 : Int32) (v6 : Int32) (v7 : Int32) (I : jI) (L : jL), jk Z v0 12 → K43 v0 v1 v2 v4 v5 v6 v7 I L → jJ G 9 43 [(0, .ref v0), (1, .int v1), (2, .int v2), (4, .int v4), (5, .int v5), (6, .int v6), (7, .int v7)] [] Z I L 0 0) (v0 : Nat) (v1 : Int32) (v2 : Int32) (v4 : Int32) (v5 : Int32) (v6 : Int32) (v7 : Int32) (s0 : Nat) (s1 : Int32) (I : jI) (L : jL) (kv0 : jk Z v0 12) (ks0 : jk Z s0 14) (h : f_X12_sheet_b94 K43 Z Q v0 v1 v2 v4 v5 v6 v7 s0 s1 I L) : jJ G 9 94 [(0, .ref v0), (1, .int v1), (2, .int v2), (4, .int v4), (5, .int v5), (6, .int v6), (7, .int v7)] [.int s1, .ref s0] Z I L 0 0 := by
  refine j_iconst E (v := 0) dX12_sheet_94 (by decide) ?_
  refine j_goto E 109 dX12_sheet_95 (by decide) ?_
  refine j_sub [0, 1, 2, 3, 4, 5, 6] rfl ?_
  exact m_X12_sheet_b109 E hZ K43 hK43 v0 v1 v2 v4 v5 v6 v7 s0 s1 (0 : Int32) I L kv0 ks0 h
set_option maxRecDepth 100000 in
def f_X12_sheet_b75 (K43 : Nat → Int32 → Int32 → Int32 → Int32 → Int32 → Int32 → jI → jL → Prop) (Z : jZ) (Q : Int32 → jI → jL → Prop) (v0 : Nat) (v1 : Int32) (v2 : Int32) (v4 : Int32) (v5 : Int32) (v6 : Int32) (v7 : Int32) (s0 : Int32) (I : jI) (L : jL) : Prop := (∀ b8 : Nat, jr Z v0 3 = some b8 → ((v1 = (3 : Int32) → f_X12_sheet_b94 K43 Z Q v0 v1 v2 v4 v5 v6 v7 b8 v7 I L) ∧ (¬ (v1 = (3 : Int32)) → ((v7 < v2 → f_X12_sheet_b109 K43 Z Q v0 v1 v2 v4 v5 v6 v7 b8 v7 (if (0 : Int32) < (if s0 < (20 : Int32) then s0 else (20 : Int32)) then (if s0 < (20 : Int32) then s0 else (20 : Int32)) else (0 : Int32)) I L) ∧ (¬ (v7 < v2) → f_X12_sheet_b94 K43 Z Q v0 v1 v2 v4 v5 v6 v7 b8 v7 I L)))))
set_option maxHeartbeats 4000000 in
set_option maxRecDepth 100000 in
theorem m_X12_sheet_b75 {G : jG} {Z : jZ} {Q : Int32 → jI → jL → Prop} (E : jE G cX12_sheet RX12 w_X12_sheet 9 (some .int) { frames := 1, cells := 0, slots := 0, locals := 23 } (rtI Z Q)) (hZ : SH Z) (K43 : Nat → Int32 → Int32 → Int32 → Int32 → Int32 → Int32 → jI → jL → Prop) (hK43 : ∀ (v0 : Nat) (v1 : Int32) (v2 : Int32) (v4 : Int32) (v5 : Int32) (v6 : Int32) (v7 : Int32) (I : jI) (L : jL), jk Z v0 12 → K43 v0 v1 v2 v4 v5 v6 v7 I L → jJ G 9 43 [(0, .ref v0), (1, .int v1), (2, .int v2), (4, .int v4), (5, .int v5), (6, .int v6), (7, .int v7)] [] Z I L 0 0) (v0 : Nat) (v1 : Int32) (v2 : Int32) (v4 : Int32) (v5 : Int32) (v6 : Int32) (v7 : Int32) (s0 : Int32) (I : jI) (L : jL) (kv0 : jk Z v0 12) (h : f_X12_sheet_b75 K43 Z Q v0 v1 v2 v4 v5 v6 v7 s0 I L) : jJ G 9 75 [(0, .ref v0), (1, .int v1), (2, .int v2), (4, .int v4), (5, .int v5), (6, .int v6), (7, .int v7)] [.int s0] Z I L 0 0 := by
  refine j_istore E 8 [(8, .int s0), (0, .ref v0), (1, .int v1), (2, .int v2), (4, .int v4), (5, .int v5), (6, .int v6), (7, .int v7)] dX12_sheet_75 (by decide) rfl ?_
  refine j_aload_n E dX12_sheet_77 1 rfl ?_
  obtain ⟨b8, eb8, kb8, lb8⟩ := sh_f hZ kv0 (j := 3) (k := 14) (m := 24) rfl
  have h := h b8 eb8
  refine j_getr E 12 3 rfl rfl (by decide) (by decide) (iw iT_12) rfl rfl (tw W_727) kv0 eb8 dX12_sheet_78 ?_
  refine j_iload E dX12_sheet_81 7 rfl ?_
  refine j_iload_n E dX12_sheet_83 2 rfl ?_
  refine j_iconst E (v := 3) dX12_sheet_84 (by decide) ?_
  refine j_icmp_eq E 94 dX12_sheet_85 (by decide) (fun c9 => ?_) (fun c9 => ?_)
  · have h := h.1 c9
    refine j_sub [1, 2, 3, 4, 5, 6, 7] rfl ?_
    exact m_X12_sheet_b94 E hZ K43 hK43 v0 v1 v2 v4 v5 v6 v7 b8 v7 I L kv0 kb8 h
  · have h := h.2 c9
    refine j_iload E dX12_sheet_88 7 rfl ?_
    refine j_iload_n E dX12_sheet_90 3 rfl ?_
    refine j_icmp_lt E 98 dX12_sheet_91 (by decide) (fun c10 => ?_) (fun c10 => ?_)
    · have h := h.1 c10
      refine j_iconst E (v := 0) dX12_sheet_98 (by decide) ?_
      refine j_bipush E (v := 20) dX12_sheet_99 (by decide) ?_
      refine j_iload E dX12_sheet_101 0 rfl ?_
      refine j_min E (tw W_755) (tw W_118) (tw W_119) (tw W_120) (by decide) (Nat.le_of_ble_eq_true rfl) (Nat.zero_le _) (Nat.zero_le _) dX12_sheet_103 ?_
      refine j_max E (tw W_756) (tw W_138) (tw W_119) (tw W_139) (by decide) (Nat.le_of_ble_eq_true rfl) (Nat.zero_le _) (Nat.zero_le _) dX12_sheet_106 ?_
      refine j_sub [1, 2, 3, 4, 5, 6, 7] rfl ?_
      exact m_X12_sheet_b109 E hZ K43 hK43 v0 v1 v2 v4 v5 v6 v7 b8 v7 (if (0 : Int32) < (if s0 < (20 : Int32) then s0 else (20 : Int32)) then (if s0 < (20 : Int32) then s0 else (20 : Int32)) else (0 : Int32)) I L kv0 kb8 h
    · have h := h.2 c10
      refine j_sub [1, 2, 3, 4, 5, 6, 7] rfl ?_
      exact m_X12_sheet_b94 E hZ K43 hK43 v0 v1 v2 v4 v5 v6 v7 b8 v7 I L kv0 kb8 h
set_option maxRecDepth 100000 in
def f_X12_sheet_L43  (Z : jZ) (Q : Int32 → jI → jL → Prop) : Nat → Nat → Int32 → Int32 → Int32 → Int32 → Int32 → Int32 → jI → jL → Prop
  | 0 => fun _ _ _ _ _ _ _ _ _ => False
  | n + 1 => fun v0 v1 v2 v4 v5 v6 v7 I L => (((I v0 0) ≤ v7 → ((¬ v1 = (3 : Int32) → Q v5 I L) ∧ (v1 = (3 : Int32) → Q (-3 : Int32) I L))) ∧ (¬ ((I v0 0) ≤ v7) → ((¬ v1 = 0 → ((¬ v1 = (1 : Int32) → f_X12_sheet_b75 (f_X12_sheet_L43 Z Q n) Z Q v0 v1 v2 v4 v5 v6 v7 v6 I L) ∧ (v1 = (1 : Int32) → f_X12_sheet_b75 (f_X12_sheet_L43 Z Q n) Z Q v0 v1 v2 v4 v5 v6 v7 (v6.toInt16.toInt32) I L))) ∧ (v1 = 0 → f_X12_sheet_b75 (f_X12_sheet_L43 Z Q n) Z Q v0 v1 v2 v4 v5 v6 v7 (v6.toInt8.toInt32) I L))))
set_option maxHeartbeats 4000000 in
set_option maxRecDepth 100000 in
theorem m_X12_sheet_L43 {G : jG} {Z : jZ} {Q : Int32 → jI → jL → Prop} (E : jE G cX12_sheet RX12 w_X12_sheet 9 (some .int) { frames := 1, cells := 0, slots := 0, locals := 23 } (rtI Z Q)) (hZ : SH Z)  : ∀ (n : Nat) (v0 : Nat) (v1 : Int32) (v2 : Int32) (v4 : Int32) (v5 : Int32) (v6 : Int32) (v7 : Int32) (I : jI) (L : jL), jk Z v0 12 → f_X12_sheet_L43  Z Q n v0 v1 v2 v4 v5 v6 v7 I L → jJ G 9 43 [(0, .ref v0), (1, .int v1), (2, .int v2), (4, .int v4), (5, .int v5), (6, .int v6), (7, .int v7)] [] Z I L 0 0 := by
  intro n
  induction n with
  | zero => intro v0 v1 v2 v4 v5 v6 v7 I L _ h; exact h.elim
  | succ n ih =>
    intro v0 v1 v2 v4 v5 v6 v7 I L kv0 h
    have h : (((I v0 0) ≤ v7 → ((¬ v1 = (3 : Int32) → Q v5 I L) ∧ (v1 = (3 : Int32) → Q (-3 : Int32) I L))) ∧ (¬ ((I v0 0) ≤ v7) → ((¬ v1 = 0 → ((¬ v1 = (1 : Int32) → f_X12_sheet_b75 (f_X12_sheet_L43 Z Q n) Z Q v0 v1 v2 v4 v5 v6 v7 v6 I L) ∧ (v1 = (1 : Int32) → f_X12_sheet_b75 (f_X12_sheet_L43 Z Q n) Z Q v0 v1 v2 v4 v5 v6 v7 (v6.toInt16.toInt32) I L))) ∧ (v1 = 0 → f_X12_sheet_b75 (f_X12_sheet_L43 Z Q n) Z Q v0 v1 v2 v4 v5 v6 v7 (v6.toInt8.toInt32) I L)))) := h
    obtain ⟨K43, eK43⟩ : ∃ K : Nat → Int32 → Int32 → Int32 → Int32 → Int32 → Int32 → jI → jL → Prop, K = f_X12_sheet_L43  Z Q n := ⟨_, rfl⟩
    have hK43 := ih
    clear eK43 K43
    generalize f_X12_sheet_L43  Z Q n = K43 at hK43 h
    refine j_iload E dX12_sheet_43 6 rfl ?_
    refine j_aload_n E dX12_sheet_45 0 rfl ?_
    refine j_geti E 12 0 rfl rfl (by decide) (by decide) (iw iT_12) rfl rfl (tw W_677) kv0 dX12_sheet_46 ?_
    refine j_icmp_ge E 135 dX12_sheet_49 (by decide) (fun c11 => ?_) (fun c11 => ?_)
    · have h := h.1 c11
      refine j_iload_n E dX12_sheet_135 1 rfl ?_
      refine j_iconst E (v := 3) dX12_sheet_136 (by decide) ?_
      refine j_icmp_ne E 145 dX12_sheet_137 (by decide) (fun c12 => ?_) (fun c12 => ?_)
      · have h := h.1 c12
        refine j_iload E dX12_sheet_145 4 rfl ?_
        exact j_ireturn E ⟨rfl, _, rfl, h⟩ (Nat.zero_le _) (Nat.zero_le _) dX12_sheet_147
      · have h := h.2 c12
        refine j_bipush E (v := -3) dX12_sheet_140 (by decide) ?_
        refine j_goto E 147 dX12_sheet_142 (by decide) ?_
        exact j_ireturn E ⟨rfl, _, rfl, h⟩ (Nat.zero_le _) (Nat.zero_le _) dX12_sheet_147
    · have h := h.2 c11
      refine j_iload_n E dX12_sheet_52 1 rfl ?_
      refine j_if_ne E 62 dX12_sheet_53 (by decide) (fun c13 => ?_) (fun c13 => ?_)
      · have h := h.1 c13
        refine j_iload_n E dX12_sheet_62 1 rfl ?_
        refine j_iconst E (v := 1) dX12_sheet_63 (by decide) ?_
        refine j_icmp_ne E 73 dX12_sheet_64 (by decide) (fun c14 => ?_) (fun c14 => ?_)
        · have h := h.1 c14
          refine j_iload E dX12_sheet_73 5 rfl ?_
          refine j_sub [0, 1, 2, 3, 4, 5, 6] rfl ?_
          exact m_X12_sheet_b75 E hZ K43 hK43 v0 v1 v2 v4 v5 v6 v7 v6 I L kv0 h
        · have h := h.2 c14
          refine j_iload E dX12_sheet_67 5 rfl ?_
          refine j_i2s E dX12_sheet_69 ?_
          refine j_goto E 75 dX12_sheet_70 (by decide) ?_
          refine j_sub [0, 1, 2, 3, 4, 5, 6] rfl ?_
          exact m_X12_sheet_b75 E hZ K43 hK43 v0 v1 v2 v4 v5 v6 v7 (v6.toInt16.toInt32) I L kv0 h
      · have h := h.2 c13
        refine j_iload E dX12_sheet_56 5 rfl ?_
        refine j_i2b E dX12_sheet_58 ?_
        refine j_goto E 75 dX12_sheet_59 (by decide) ?_
        refine j_sub [0, 1, 2, 3, 4, 5, 6] rfl ?_
        exact m_X12_sheet_b75 E hZ K43 hK43 v0 v1 v2 v4 v5 v6 v7 (v6.toInt8.toInt32) I L kv0 h
set_option maxRecDepth 100000 in
def f_X12_sheet_b34  (Z : jZ) (Q : Int32 → jI → jL → Prop) (v0 : Nat) (v1 : Int32) (v2 : Int32) (v3 : Int32) (v4 : Int32) (I : jI) (L : jL) : Prop := (∃ m43 : Nat, f_X12_sheet_L43  Z Q m43 v0 v1 v2 v4 (0 : Int32) v3 (0 : Int32) I L)
set_option maxHeartbeats 4000000 in
set_option maxRecDepth 100000 in
theorem m_X12_sheet_b34 {G : jG} {Z : jZ} {Q : Int32 → jI → jL → Prop} (E : jE G cX12_sheet RX12 w_X12_sheet 9 (some .int) { frames := 1, cells := 0, slots := 0, locals := 23 } (rtI Z Q)) (hZ : SH Z)  (v0 : Nat) (v1 : Int32) (v2 : Int32) (v3 : Int32) (v4 : Int32) (I : jI) (L : jL) (kv0 : jk Z v0 12) (h : f_X12_sheet_b34  Z Q v0 v1 v2 v3 v4 I L) : jJ G 9 34 [(0, .ref v0), (1, .int v1), (2, .int v2), (3, .int v3), (4, .int v4)] [] Z I L 0 0 := by
  refine j_iconst E (v := 0) dX12_sheet_34 (by decide) ?_
  refine j_istore E 5 [(5, .int (0 : Int32)), (0, .ref v0), (1, .int v1), (2, .int v2), (3, .int v3), (4, .int v4)] dX12_sheet_35 (by decide) rfl ?_
  refine j_iload_n E dX12_sheet_37 4 rfl ?_
  refine j_istore E 6 [(6, .int v3), (5, .int (0 : Int32)), (0, .ref v0), (1, .int v1), (2, .int v2), (3, .int v3), (4, .int v4)] dX12_sheet_38 (by decide) rfl ?_
  refine j_iconst E (v := 0) dX12_sheet_40 (by decide) ?_
  refine j_istore E 7 [(7, .int (0 : Int32)), (6, .int v3), (5, .int (0 : Int32)), (0, .ref v0), (1, .int v1), (2, .int v2), (3, .int v3), (4, .int v4)] dX12_sheet_41 (by decide) rfl ?_
  obtain ⟨n15, h⟩ := h
  refine j_sub [3, 4, 5, 7, 2, 1, 0] rfl ?_
  exact m_X12_sheet_L43 E hZ  n15 v0 v1 v2 v4 (0 : Int32) v3 (0 : Int32) I L kv0 h
set_option maxRecDepth 100000 in
def f_X12_sheet (v0 : Nat) (v1 : Int32) (v2 : Int32) (v3 : Int32) (v4 : Int32) (Z : jZ) (I : jI) (L : jL) (Q : Int32 → jI → jL → Prop) : Prop := (∀ I16 : jI, I16 = jpI I v0 22 (0 : Int32) → (f_X12_in v1 (0 : Int32) (3 : Int32) Z I16 L (fun r22 I19 L20 => ((r22 = 0 → Q (-1 : Int32) I19 L20) ∧ (¬ (r22 = 0) → ((v2 ≤ (24 : Int32) → (((3 : Int32) ≤ v1 → f_X12_sheet_b34  Z Q v0 v1 v2 v3 v4 I19 L20) ∧ (¬ ((3 : Int32) ≤ v1) → ((0 ≤ v2 → f_X12_sheet_b34  Z Q v0 v1 v2 v3 v4 I19 L20) ∧ (¬ (0 ≤ v2) → Q (-2 : Int32) I19 L20))))) ∧ (¬ (v2 ≤ (24 : Int32)) → Q (-1 : Int32) I19 L20)))))))
set_option maxHeartbeats 4000000 in
set_option maxRecDepth 100000 in
theorem c_X12_sheet (l : Launch) (D : va_G) (cy : jC) (v0 : Nat) (v1 : Int32) (v2 : Int32) (v3 : Int32) (v4 : Int32) (Z : jZ) (I : jI) (L : jL) (Q : Int32 → jI → jL → Prop) (hZ : SH Z) (kv0 : jk Z v0 12) (h : f_X12_sheet v0 v1 v2 v3 v4 Z I L Q) : jCt l yX12_sheet w_X12_sheet { frames := 1, cells := 0, slots := 0, locals := 23 } D cy [.ref v0, .int v1, .int v2, .int v3, .int v4] Z I L (rtI Z Q) := by
  refine jCt_of (cc := cX12_sheet) (maxL := 9) (ret := (some .int)) (by decide +kernel) rfl (Nat.le_of_ble_eq_true rfl) ?_
  intro G eD eY eL E
  subst eD; subst eY; subst eL
  have E : jE G cX12_sheet RX12 w_X12_sheet 9 (some .int) { frames := 1, cells := 0, slots := 0, locals := 23 } (rtI Z Q) := E
  show jJ G 9 0 [(0, .ref v0), (1, .int v1), (2, .int v2), (3, .int v3), (4, .int v4)] [] Z I L 0 0
  refine j_aload_n E dX12_sheet_0 0 rfl ?_
  refine j_iconst E (v := 0) dX12_sheet_1 (by decide) ?_
  refine j_puti E 12 22 rfl rfl (by decide) (by decide) (iw iT_12) tyX12_ok nmX12 rfl rfl (tw W_674) rfl rfl rfl kv0 dX12_sheet_2 ?_
  refine j_nmI (fun I16 eI16 => ?_)
  have h := h I16 eI16
  refine j_iload_n E dX12_sheet_5 1 rfl ?_
  refine j_iconst E (v := 0) dX12_sheet_6 (by decide) ?_
  refine j_iconst E (v := 3) dX12_sheet_7 (by decide) ?_
  refine j_callS E [.int v1, .int (0 : Int32), .int (3 : Int32)] [] (c_X12_in (gL G) (gD G) (gY G) v1 (0 : Int32) (3 : Int32) Z I16 L _ hZ  h) (gwS W_680 W_681 W_679 W_678) rfl fy_X12_in ⟨by decide, by decide⟩ rfl rfl (Nat.le_of_ble_eq_true rfl) ⟨Nat.zero_le _, Nat.zero_le _⟩ dX12_sheet_8 (fun v17 Z18 I19 L20 q21 => ?_)
  obtain ⟨rfl, r22, rfl, zr22, h⟩ := q21
  show jJ G 9 11 [(0, .ref v0), (1, .int v1), (2, .int v2), (3, .int v3), (4, .int v4)] [.int r22] Z I19 L20 0 0
  refine j_if_eq E 20 dX12_sheet_11 (by decide) (fun c23 => ?_) (fun c23 => ?_)
  · have h := h.1 c23
    refine j_iconst E (v := -1) dX12_sheet_20 (by decide) ?_
    exact j_ireturn E ⟨rfl, _, rfl, h⟩ (Nat.zero_le _) (Nat.zero_le _) dX12_sheet_21
  · have h := h.2 c23
    refine j_iload_n E dX12_sheet_14 2 rfl ?_
    refine j_bipush E (v := 24) dX12_sheet_15 (by decide) ?_
    refine j_icmp_le E 22 dX12_sheet_17 (by decide) (fun c24 => ?_) (fun c24 => ?_)
    · have h := h.1 c24
      refine j_iload_n E dX12_sheet_22 1 rfl ?_
      refine j_iconst E (v := 3) dX12_sheet_23 (by decide) ?_
      refine j_icmp_ge E 34 dX12_sheet_24 (by decide) (fun c25 => ?_) (fun c25 => ?_)
      · have h := h.1 c25
        refine j_sub [0, 1, 2, 3, 4] rfl ?_
        exact m_X12_sheet_b34 E hZ  v0 v1 v2 v3 v4 I19 L20 kv0 h
      · have h := h.2 c25
        refine j_iload_n E dX12_sheet_27 2 rfl ?_
        refine j_if_ge E 34 dX12_sheet_28 (by decide) (fun c26 => ?_) (fun c26 => ?_)
        · have h := h.1 c26
          refine j_sub [0, 1, 2, 3, 4] rfl ?_
          exact m_X12_sheet_b34 E hZ  v0 v1 v2 v3 v4 I19 L20 kv0 h
        · have h := h.2 c26
          refine j_bipush E (v := -2) dX12_sheet_31 (by decide) ?_
          exact j_ireturn E ⟨rfl, _, rfl, h⟩ (Nat.zero_le _) (Nat.zero_le _) dX12_sheet_33
    · have h := h.2 c24
      refine j_iconst E (v := -1) dX12_sheet_20 (by decide) ?_
      exact j_ireturn E ⟨rfl, _, rfl, h⟩ (Nat.zero_le _) (Nat.zero_le _) dX12_sheet_21
set_option maxRecDepth 100000 in
def f_X12_setFeud (v0 : Nat) (v1 : Int32) (v2 : Int32) (v3 : Int32) (Z : jZ) (I : jI) (L : jL) (Q : jI → jL → Prop) : Prop := (∀ b1 : Nat, jr Z v0 6 = some b1 → (vp_in (((8 : Int32) * v1) + v2) 64 ∧ (∀ I3 : jI, I3 = jpI I b1 (((8 : Int32) * v1) + v2).toNatClampNeg (vp_nar .boolean v3) → (∀ b4 : Nat, jr Z v0 6 = some b4 → (vp_in (((8 : Int32) * v2) + v1) 64 ∧ (∀ I6 : jI, I6 = jpI I3 b4 (((8 : Int32) * v2) + v1).toNatClampNeg (vp_nar .boolean v3) → Q I6 L))))))
set_option maxHeartbeats 4000000 in
set_option maxRecDepth 100000 in
theorem c_X12_setFeud (l : Launch) (D : va_G) (cy : jC) (v0 : Nat) (v1 : Int32) (v2 : Int32) (v3 : Int32) (Z : jZ) (I : jI) (L : jL) (Q : jI → jL → Prop) (hZ : SH Z) (kv0 : jk Z v0 12) (h : f_X12_setFeud v0 v1 v2 v3 Z I L Q) : jCt l yX12_setFeud w_X12_setFeud { frames := 0, cells := 0, slots := 0, locals := 0 } D cy [.ref v0, .int v1, .int v2, .int v3] Z I L (rtV Z Q) := by
  refine jCt_of (cc := cX12_setFeud) (maxL := 4) (ret := none) (by decide +kernel) rfl (Nat.le_of_ble_eq_true rfl) ?_
  intro G eD eY eL E
  subst eD; subst eY; subst eL
  have E : jE G cX12_setFeud RX12 w_X12_setFeud 4 none { frames := 0, cells := 0, slots := 0, locals := 0 } (rtV Z Q) := E
  show jJ G 4 0 [(0, .ref v0), (1, .int v1), (2, .int v2), (3, .int v3)] [] Z I L 0 0
  refine j_aload_n E dX12_setFeud_0 0 rfl ?_
  obtain ⟨b1, eb1, kb1, lb1⟩ := sh_f hZ kv0 (j := 6) (k := 16) (m := 64) rfl
  have h := h b1 eb1
  refine j_getr E 12 6 rfl rfl (by decide) (by decide) (iw iT_12) rfl rfl (tw W_739) kv0 eb1 dX12_setFeud_1 ?_
  refine j_bipush E (v := 8) dX12_setFeud_4 (by decide) ?_
  refine j_iload_n E dX12_setFeud_6 1 rfl ?_
  refine j_imul E dX12_setFeud_7 ?_
  refine j_iload_n E dX12_setFeud_8 2 rfl ?_
  refine j_iadd E dX12_setFeud_9 ?_
  refine j_iload_n E dX12_setFeud_10 3 rfl ?_
  obtain ⟨o2, h⟩ := h
  refine j_zast E kb1 (by rw [lb1]; exact o2) dX12_setFeud_11 ?_
  refine j_nmI (fun I3 eI3 => ?_)
  have h := h I3 eI3
  refine j_aload_n E dX12_setFeud_12 0 rfl ?_
  obtain ⟨b4, eb4, kb4, lb4⟩ := sh_f hZ kv0 (j := 6) (k := 16) (m := 64) rfl
  have h := h b4 eb4
  refine j_getr E 12 6 rfl rfl (by decide) (by decide) (iw iT_12) rfl rfl (tw W_739) kv0 eb4 dX12_setFeud_13 ?_
  refine j_bipush E (v := 8) dX12_setFeud_16 (by decide) ?_
  refine j_iload_n E dX12_setFeud_18 2 rfl ?_
  refine j_imul E dX12_setFeud_19 ?_
  refine j_iload_n E dX12_setFeud_20 1 rfl ?_
  refine j_iadd E dX12_setFeud_21 ?_
  refine j_iload_n E dX12_setFeud_22 3 rfl ?_
  obtain ⟨o5, h⟩ := h
  refine j_zast E kb4 (by rw [lb4]; exact o5) dX12_setFeud_23 ?_
  refine j_nmI (fun I6 eI6 => ?_)
  have h := h I6 eI6
  exact j_return E ⟨rfl, rfl, h⟩ (Nat.zero_le _) (Nat.zero_le _) dX12_setFeud_24
set_option maxRecDepth 100000 in
def f_X12_feud (v0 : Nat) (v1 : Int32) (v2 : Int32) (v3 : Int32) (Z : jZ) (I : jI) (L : jL) (Q : Int32 → jI → jL → Prop) : Prop := (∀ I1 : jI, I1 = jpI I v0 22 (0 : Int32) → (f_X12_isFamily v1 Z I1 L (fun r7 I4 L5 => ((r7 = 0 → Q (0 : Int32) I4 L5) ∧ (¬ (r7 = 0) → (f_X12_isFamily v2 Z I4 L5 (fun r14 I11 L12 => ((r14 = 0 → Q (0 : Int32) I11 L12) ∧ (¬ (r14 = 0) → ((¬ v1 = v2 → (f_X12_setFeud v0 v1 v2 v3 Z I11 L12 (fun I19 L20 => Q (1 : Int32) I19 L20))) ∧ (v1 = v2 → Q (0 : Int32) I11 L12)))))))))))
set_option maxHeartbeats 4000000 in
set_option maxRecDepth 100000 in
theorem c_X12_feud (l : Launch) (D : va_G) (cy : jC) (v0 : Nat) (v1 : Int32) (v2 : Int32) (v3 : Int32) (Z : jZ) (I : jI) (L : jL) (Q : Int32 → jI → jL → Prop) (hZ : SH Z) (kv0 : jk Z v0 12) (h : f_X12_feud v0 v1 v2 v3 Z I L Q) : jCt l yX12_feud w_X12_feud { frames := 2, cells := 0, slots := 0, locals := 42 } D cy [.ref v0, .int v1, .int v2, .int v3] Z I L (rtZ Z Q) := by
  refine jCt_of (cc := cX12_feud) (maxL := 4) (ret := (some .boolean)) (by decide +kernel) rfl (Nat.le_of_ble_eq_true rfl) ?_
  intro G eD eY eL E
  subst eD; subst eY; subst eL
  have E : jE G cX12_feud RX12 w_X12_feud 4 (some .boolean) { frames := 2, cells := 0, slots := 0, locals := 42 } (rtZ Z Q) := E
  show jJ G 4 0 [(0, .ref v0), (1, .int v1), (2, .int v2), (3, .int v3)] [] Z I L 0 0
  refine j_aload_n E dX12_feud_0 0 rfl ?_
  refine j_iconst E (v := 0) dX12_feud_1 (by decide) ?_
  refine j_puti E 12 22 rfl rfl (by decide) (by decide) (iw iT_12) tyX12_ok nmX12 rfl rfl (tw W_674) rfl rfl rfl kv0 dX12_feud_2 ?_
  refine j_nmI (fun I1 eI1 => ?_)
  have h := h I1 eI1
  refine j_iload_n E dX12_feud_5 1 rfl ?_
  refine j_callS E [.int v1] [] (c_X12_isFamily (gL G) (gD G) (gY G) v1 Z I1 L _ hZ  h) (gwS W_758 W_759 W_679 W_757) rfl fy_X12_isFamily ⟨by decide, by decide⟩ rfl rfl (Nat.le_of_ble_eq_true rfl) ⟨Nat.zero_le _, Nat.zero_le _⟩ dX12_feud_6 (fun v2 Z3 I4 L5 q6 => ?_)
  obtain ⟨rfl, r7, rfl, zr7, h⟩ := q6
  show jJ G 4 9 [(0, .ref v0), (1, .int v1), (2, .int v2), (3, .int v3)] [.int r7] Z I4 L5 0 0
  refine j_if_eq E 24 dX12_feud_9 (by decide) (fun c8 => ?_) (fun c8 => ?_)
  · have h := h.1 c8
    refine j_iconst E (v := 0) dX12_feud_24 (by decide) ?_
    exact j_zreturn E (Or.inl rfl) ⟨rfl, _, rfl, (Or.inl rfl), h⟩ (Nat.zero_le _) (Nat.zero_le _) dX12_feud_25
  · have h := h.2 c8
    refine j_iload_n E dX12_feud_12 2 rfl ?_
    refine j_callS E [.int v2] [] (c_X12_isFamily (gL G) (gD G) (gY G) v2 Z I4 L5 _ hZ  h) (gwS W_758 W_759 W_679 W_757) rfl fy_X12_isFamily ⟨by decide, by decide⟩ rfl rfl (Nat.le_of_ble_eq_true rfl) ⟨Nat.zero_le _, Nat.zero_le _⟩ dX12_feud_13 (fun v9 Z10 I11 L12 q13 => ?_)
    obtain ⟨rfl, r14, rfl, zr14, h⟩ := q13
    show jJ G 4 16 [(0, .ref v0), (1, .int v1), (2, .int v2), (3, .int v3)] [.int r14] Z I11 L12 0 0
    refine j_if_eq E 24 dX12_feud_16 (by decide) (fun c15 => ?_) (fun c15 => ?_)
    · have h := h.1 c15
      refine j_iconst E (v := 0) dX12_feud_24 (by decide) ?_
      exact j_zreturn E (Or.inl rfl) ⟨rfl, _, rfl, (Or.inl rfl), h⟩ (Nat.zero_le _) (Nat.zero_le _) dX12_feud_25
    · have h := h.2 c15
      refine j_iload_n E dX12_feud_19 1 rfl ?_
      refine j_iload_n E dX12_feud_20 2 rfl ?_
      refine j_icmp_ne E 26 dX12_feud_21 (by decide) (fun c16 => ?_) (fun c16 => ?_)
      · have h := h.1 c16
        refine j_aload_n E dX12_feud_26 0 rfl ?_
        refine j_iload_n E dX12_feud_27 1 rfl ?_
        refine j_iload_n E dX12_feud_28 2 rfl ?_
        refine j_iload_n E dX12_feud_29 3 rfl ?_
        refine j_callV E [.int v1, .int v2, .int v3] [] (c_X12_setFeud (gL G) (gD G) (gY G) v0 v1 v2 v3 Z I11 L12 _ hZ kv0 h) (gwV W_761 W_762 W_763 W_679 W_760) rfl ⟨rfl, fy_X12_setFeud⟩ ⟨by decide, by decide⟩ (c := 12) rfl (by decide) kv0 rfl rfl (Nat.le_of_ble_eq_true rfl) ⟨Nat.zero_le _, Nat.zero_le _⟩ dX12_feud_30 (fun v17 Z18 I19 L20 q21 => ?_)
        obtain ⟨rfl, rfl, h⟩ := q21
        show jJ G 4 33 [(0, .ref v0), (1, .int v1), (2, .int v2), (3, .int v3)] [] Z I19 L20 0 0
        refine j_iconst E (v := 1) dX12_feud_33 (by decide) ?_
        exact j_zreturn E (Or.inr rfl) ⟨rfl, _, rfl, (Or.inr rfl), h⟩ (Nat.zero_le _) (Nat.zero_le _) dX12_feud_34
      · have h := h.2 c16
        refine j_iconst E (v := 0) dX12_feud_24 (by decide) ?_
        exact j_zreturn E (Or.inl rfl) ⟨rfl, _, rfl, (Or.inl rfl), h⟩ (Nat.zero_le _) (Nat.zero_le _) dX12_feud_25
set_option maxRecDepth 100000 in
def f_X12_wears_L21  (Z : jZ) (Q : Int32 → jI → jL → Prop) : Nat → Nat → Int32 → Int32 → Int32 → jI → jL → Prop
  | 0 => fun _ _ _ _ _ _ => False
  | n + 1 => fun v0 v1 v2 v3 I L => (((I v0 0) ≤ v3 → Q v2 I L) ∧ (¬ ((I v0 0) ≤ v3) → (∀ b2 : Nat, jr Z v0 2 = some b2 → (∀ b3 : Nat, jr Z v0 2 = some b3 → (vp_in v3 24 ∧ (vp_in v3 24 ∧ (∀ I6 : jI, I6 = jpI I b2 v3.toNatClampNeg (if (0 : Int32) < ((I b3 v3.toNatClampNeg) - v1) then ((I b3 v3.toNatClampNeg) - v1) else (0 : Int32)) → (∀ b7 : Nat, jr Z v0 2 = some b7 → (vp_in v3 24 ∧ (∀ x9 : Int32, x9 = (v2 + (I6 b7 v3.toNatClampNeg)) → (∀ x10 : Int32, x10 = v3 + 1 → (f_X12_wears_L21 Z Q n) v0 v1 x9 x10 I6 L)))))))))))
set_option maxHeartbeats 4000000 in
set_option maxRecDepth 100000 in
theorem m_X12_wears_L21 {G : jG} {Z : jZ} {Q : Int32 → jI → jL → Prop} (E : jE G cX12_wears RX12 w_X12_wears 4 (some .int) { frames := 1, cells := 0, slots := 0, locals := 23 } (rtI Z Q)) (hZ : SH Z)  : ∀ (n : Nat) (v0 : Nat) (v1 : Int32) (v2 : Int32) (v3 : Int32) (I : jI) (L : jL), jk Z v0 12 → f_X12_wears_L21  Z Q n v0 v1 v2 v3 I L → jJ G 4 21 [(0, .ref v0), (1, .int v1), (2, .int v2), (3, .int v3)] [] Z I L 0 0 := by
  intro n
  induction n with
  | zero => intro v0 v1 v2 v3 I L _ h; exact h.elim
  | succ n ih =>
    intro v0 v1 v2 v3 I L kv0 h
    have h : (((I v0 0) ≤ v3 → Q v2 I L) ∧ (¬ ((I v0 0) ≤ v3) → (∀ b2 : Nat, jr Z v0 2 = some b2 → (∀ b3 : Nat, jr Z v0 2 = some b3 → (vp_in v3 24 ∧ (vp_in v3 24 ∧ (∀ I6 : jI, I6 = jpI I b2 v3.toNatClampNeg (if (0 : Int32) < ((I b3 v3.toNatClampNeg) - v1) then ((I b3 v3.toNatClampNeg) - v1) else (0 : Int32)) → (∀ b7 : Nat, jr Z v0 2 = some b7 → (vp_in v3 24 ∧ (∀ x9 : Int32, x9 = (v2 + (I6 b7 v3.toNatClampNeg)) → (∀ x10 : Int32, x10 = v3 + 1 → (f_X12_wears_L21 Z Q n) v0 v1 x9 x10 I6 L))))))))))) := h
    obtain ⟨K21, eK21⟩ : ∃ K : Nat → Int32 → Int32 → Int32 → jI → jL → Prop, K = f_X12_wears_L21  Z Q n := ⟨_, rfl⟩
    have hK21 := ih
    clear eK21 K21
    generalize f_X12_wears_L21  Z Q n = K21 at hK21 h
    refine j_iload_n E dX12_wears_21 3 rfl ?_
    refine j_aload_n E dX12_wears_22 0 rfl ?_
    refine j_geti E 12 0 rfl rfl (by decide) (by decide) (iw iT_12) rfl rfl (tw W_677) kv0 dX12_wears_23 ?_
    refine j_icmp_ge E 62 dX12_wears_26 (by decide) (fun c1 => ?_) (fun c1 => ?_)
    · have h := h.1 c1
      refine j_iload_n E dX12_wears_62 2 rfl ?_
      exact j_ireturn E ⟨rfl, _, rfl, h⟩ (Nat.zero_le _) (Nat.zero_le _) dX12_wears_63
    · have h := h.2 c1
      refine j_aload_n E dX12_wears_29 0 rfl ?_
      obtain ⟨b2, eb2, kb2, lb2⟩ := sh_f hZ kv0 (j := 2) (k := 14) (m := 24) rfl
      have h := h b2 eb2
      refine j_getr E 12 2 rfl rfl (by decide) (by decide) (iw iT_12) rfl rfl (tw W_726) kv0 eb2 dX12_wears_30 ?_
      refine j_iload_n E dX12_wears_33 3 rfl ?_
      refine j_iconst E (v := 0) dX12_wears_34 (by decide) ?_
      refine j_aload_n E dX12_wears_35 0 rfl ?_
      obtain ⟨b3, eb3, kb3, lb3⟩ := sh_f hZ kv0 (j := 2) (k := 14) (m := 24) rfl
      have h := h b3 eb3
      refine j_getr E 12 2 rfl rfl (by decide) (by decide) (iw iT_12) rfl rfl (tw W_726) kv0 eb3 dX12_wears_36 ?_
      refine j_iload_n E dX12_wears_39 3 rfl ?_
      obtain ⟨o4, h⟩ := h
      refine j_iald E kb3 (by rw [lb3]; exact o4) dX12_wears_40 ?_
      refine j_iload_n E dX12_wears_41 1 rfl ?_
      refine j_isub E dX12_wears_42 ?_
      refine j_max E (tw W_756) (tw W_138) (tw W_119) (tw W_139) (by decide) (Nat.le_of_ble_eq_true rfl) (Nat.zero_le _) (Nat.zero_le _) dX12_wears_43 ?_
      obtain ⟨o5, h⟩ := h
      refine j_iast E kb2 (by rw [lb2]; exact o5) dX12_wears_46 ?_
      refine j_nmI (fun I6 eI6 => ?_)
      have h := h I6 eI6
      refine j_iload_n E dX12_wears_47 2 rfl ?_
      refine j_aload_n E dX12_wears_48 0 rfl ?_
      obtain ⟨b7, eb7, kb7, lb7⟩ := sh_f hZ kv0 (j := 2) (k := 14) (m := 24) rfl
      have h := h b7 eb7
      refine j_getr E 12 2 rfl rfl (by decide) (by decide) (iw iT_12) rfl rfl (tw W_726) kv0 eb7 dX12_wears_49 ?_
      refine j_iload_n E dX12_wears_52 3 rfl ?_
      obtain ⟨o8, h⟩ := h
      refine j_iald E kb7 (by rw [lb7]; exact o8) dX12_wears_53 ?_
      refine j_iadd E dX12_wears_54 ?_
      refine j_topi (fun x9 ex9 => ?_)
      have h := h x9 ex9
      refine j_istore_n E 2 [(2, .int x9), (0, .ref v0), (1, .int v1), (3, .int v3)] dX12_wears_55 rfl (by decide) rfl ?_
      obtain ⟨x10, ex10⟩ : ∃ y : Int32, y = v3 + 1 := ⟨_, rfl⟩
      have h := h x10 ex10
      refine j_iinc E x10 [(3, .int x10), (2, .int x9), (0, .ref v0), (1, .int v1)] dX12_wears_56 3 rfl (by rw [ex10]; rfl) (by decide) rfl ?_
      refine j_goto E 21 dX12_wears_59 (by decide) ?_
      refine j_sub [2, 3, 1, 0] rfl ?_
      exact hK21 v0 v1 x9 x10 I6 L kv0 h
set_option maxRecDepth 100000 in
def f_X12_wears (v0 : Nat) (v1 : Int32) (Z : jZ) (I : jI) (L : jL) (Q : Int32 → jI → jL → Prop) : Prop := (∀ I11 : jI, I11 = jpI I v0 22 (0 : Int32) → (f_X12_in v1 (0 : Int32) (9 : Int32) Z I11 L (fun r17 I14 L15 => ((¬ r17 = 0 → (∃ m21 : Nat, f_X12_wears_L21  Z Q m21 v0 v1 (0 : Int32) (0 : Int32) I14 L15)) ∧ (r17 = 0 → Q (-1 : Int32) I14 L15)))))
set_option maxHeartbeats 4000000 in
set_option maxRecDepth 100000 in
theorem c_X12_wears (l : Launch) (D : va_G) (cy : jC) (v0 : Nat) (v1 : Int32) (Z : jZ) (I : jI) (L : jL) (Q : Int32 → jI → jL → Prop) (hZ : SH Z) (kv0 : jk Z v0 12) (h : f_X12_wears v0 v1 Z I L Q) : jCt l yX12_wears w_X12_wears { frames := 1, cells := 0, slots := 0, locals := 23 } D cy [.ref v0, .int v1] Z I L (rtI Z Q) := by
  refine jCt_of (cc := cX12_wears) (maxL := 4) (ret := (some .int)) (by decide +kernel) rfl (Nat.le_of_ble_eq_true rfl) ?_
  intro G eD eY eL E
  subst eD; subst eY; subst eL
  have E : jE G cX12_wears RX12 w_X12_wears 4 (some .int) { frames := 1, cells := 0, slots := 0, locals := 23 } (rtI Z Q) := E
  show jJ G 4 0 [(0, .ref v0), (1, .int v1)] [] Z I L 0 0
  refine j_aload_n E dX12_wears_0 0 rfl ?_
  refine j_iconst E (v := 0) dX12_wears_1 (by decide) ?_
  refine j_puti E 12 22 rfl rfl (by decide) (by decide) (iw iT_12) tyX12_ok nmX12 rfl rfl (tw W_674) rfl rfl rfl kv0 dX12_wears_2 ?_
  refine j_nmI (fun I11 eI11 => ?_)
  have h := h I11 eI11
  refine j_iload_n E dX12_wears_5 1 rfl ?_
  refine j_iconst E (v := 0) dX12_wears_6 (by decide) ?_
  refine j_bipush E (v := 9) dX12_wears_7 (by decide) ?_
  refine j_callS E [.int v1, .int (0 : Int32), .int (9 : Int32)] [] (c_X12_in (gL G) (gD G) (gY G) v1 (0 : Int32) (9 : Int32) Z I11 L _ hZ  h) (gwS W_680 W_681 W_679 W_678) rfl fy_X12_in ⟨by decide, by decide⟩ rfl rfl (Nat.le_of_ble_eq_true rfl) ⟨Nat.zero_le _, Nat.zero_le _⟩ dX12_wears_9 (fun v12 Z13 I14 L15 q16 => ?_)
  obtain ⟨rfl, r17, rfl, zr17, h⟩ := q16
  show jJ G 4 12 [(0, .ref v0), (1, .int v1)] [.int r17] Z I14 L15 0 0
  refine j_if_ne E 17 dX12_wears_12 (by decide) (fun c18 => ?_) (fun c18 => ?_)
  · have h := h.1 c18
    refine j_iconst E (v := 0) dX12_wears_17 (by decide) ?_
    refine j_istore_n E 2 [(2, .int (0 : Int32)), (0, .ref v0), (1, .int v1)] dX12_wears_18 rfl (by decide) rfl ?_
    refine j_iconst E (v := 0) dX12_wears_19 (by decide) ?_
    refine j_istore_n E 3 [(3, .int (0 : Int32)), (2, .int (0 : Int32)), (0, .ref v0), (1, .int v1)] dX12_wears_20 rfl (by decide) rfl ?_
    obtain ⟨n19, h⟩ := h
    refine j_sub [2, 3, 1, 0] rfl ?_
    exact m_X12_wears_L21 E hZ  n19 v0 v1 (0 : Int32) (0 : Int32) I14 L15 kv0 h
  · have h := h.2 c18
    refine j_iconst E (v := -1) dX12_wears_15 (by decide) ?_
    exact j_ireturn E ⟨rfl, _, rfl, h⟩ (Nat.zero_le _) (Nat.zero_le _) dX12_wears_16
set_option maxRecDepth 100000 in
def f_X12_pilgrim (v0 : Nat) (v1 : Int32) (v2 : Int32) (v3 : Int32) (v4 : Int32) (Z : jZ) (I : jI) (L : jL) (Q : Int32 → jI → jL → Prop) : Prop := (∀ I1 : jI, I1 = jpI I v0 22 (0 : Int32) → (f_X12_in v1 (1 : Int32) (120 : Int32) Z I1 L (fun r7 I4 L5 => ((r7 = 0 → Q (-1 : Int32) I4 L5) ∧ (¬ (r7 = 0) → (f_X12_in v2 (0 : Int32) (999 : Int32) Z I4 L5 (fun r14 I11 L12 => ((r14 = 0 → Q (-1 : Int32) I11 L12) ∧ (¬ (r14 = 0) → (f_X12_in v3 (1 : Int32) (3 : Int32) Z I11 L12 (fun r21 I18 L19 => ((r21 = 0 → Q (-1 : Int32) I18 L19) ∧ (¬ (r21 = 0) → (f_X12_in v4 (0 : Int32) (50 : Int32) Z I18 L19 (fun r28 I25 L26 => ((r28 = 0 → Q (-1 : Int32) I25 L26) ∧ (¬ (r28 = 0) → ((¬ (I25 v0 8) = (6 : Int32) → (∀ b31 : Nat, jr Z v0 9 = some b31 → (vp_in (I25 v0 8) 6 ∧ (∀ I33 : jI, I33 = jpI I25 b31 (I25 v0 8).toNatClampNeg v1 → (∀ b34 : Nat, jr Z v0 10 = some b34 → (vp_in (I33 v0 8) 6 ∧ (∀ I36 : jI, I36 = jpI I33 b34 (I33 v0 8).toNatClampNeg v2 → (∀ b37 : Nat, jr Z v0 11 = some b37 → (vp_in (I36 v0 8) 6 ∧ (∀ I39 : jI, I39 = jpI I36 b37 (I36 v0 8).toNatClampNeg v3 → (∀ b40 : Nat, jr Z v0 12 = some b40 → (vp_in (I39 v0 8) 6 ∧ (∀ I42 : jI, I42 = jpI I39 b40 (I39 v0 8).toNatClampNeg v4 → (∀ b43 : Nat, jr Z v0 13 = some b43 → (vp_in (I42 v0 8) 6 ∧ (∀ I45 : jI, I45 = jpI I42 b43 (I42 v0 8).toNatClampNeg (0 : Int32) → (∀ b46 : Nat, jr Z v0 14 = some b46 → (vp_in (I45 v0 8) 6 ∧ (∀ I48 : jI, I48 = jpI I45 b46 (I45 v0 8).toNatClampNeg (-1 : Int32) → (∀ b49 : Nat, jr Z v0 15 = some b49 → (vp_in (I48 v0 8) 6 ∧ (∀ I51 : jI, I51 = jpI I48 b49 (I48 v0 8).toNatClampNeg v1 → (∀ b52 : Nat, jr Z v0 16 = some b52 → (vp_in (I51 v0 8) 6 ∧ (∀ I54 : jI, I54 = jpI I51 b52 (I51 v0 8).toNatClampNeg v2 → (∀ I55 : jI, I55 = jpI I54 v0 8 ((I54 v0 8) + (1 : Int32)) → Q ((I55 v0 8) - (1 : Int32)) I55 L26)))))))))))))))))))))))))) ∧ ((I25 v0 8) = (6 : Int32) → Q (-1 : Int32) I25 L26)))))))))))))))))))
set_option maxHeartbeats 4000000 in
set_option maxRecDepth 100000 in
theorem c_X12_pilgrim (l : Launch) (D : va_G) (cy : jC) (v0 : Nat) (v1 : Int32) (v2 : Int32) (v3 : Int32) (v4 : Int32) (Z : jZ) (I : jI) (L : jL) (Q : Int32 → jI → jL → Prop) (hZ : SH Z) (kv0 : jk Z v0 12) (h : f_X12_pilgrim v0 v1 v2 v3 v4 Z I L Q) : jCt l yX12_pilgrim w_X12_pilgrim { frames := 1, cells := 0, slots := 0, locals := 22 } D cy [.ref v0, .int v1, .int v2, .int v3, .int v4] Z I L (rtI Z Q) := by
  refine jCt_of (cc := cX12_pilgrim) (maxL := 5) (ret := (some .int)) (by decide +kernel) rfl (Nat.le_of_ble_eq_true rfl) ?_
  intro G eD eY eL E
  subst eD; subst eY; subst eL
  have E : jE G cX12_pilgrim RX12 w_X12_pilgrim 5 (some .int) { frames := 1, cells := 0, slots := 0, locals := 22 } (rtI Z Q) := E
  show jJ G 5 0 [(0, .ref v0), (1, .int v1), (2, .int v2), (3, .int v3), (4, .int v4)] [] Z I L 0 0
  refine j_aload_n E dX12_pilgrim_0 0 rfl ?_
  refine j_iconst E (v := 0) dX12_pilgrim_1 (by decide) ?_
  refine j_puti E 12 22 rfl rfl (by decide) (by decide) (iw iT_12) tyX12_ok nmX12 rfl rfl (tw W_674) rfl rfl rfl kv0 dX12_pilgrim_2 ?_
  refine j_nmI (fun I1 eI1 => ?_)
  have h := h I1 eI1
  refine j_iload_n E dX12_pilgrim_5 1 rfl ?_
  refine j_iconst E (v := 1) dX12_pilgrim_6 (by decide) ?_
  refine j_bipush E (v := 120) dX12_pilgrim_7 (by decide) ?_
  refine j_callS E [.int v1, .int (1 : Int32), .int (120 : Int32)] [] (c_X12_in (gL G) (gD G) (gY G) v1 (1 : Int32) (120 : Int32) Z I1 L _ hZ  h) (gwS W_680 W_681 W_679 W_678) rfl fy_X12_in ⟨by decide, by decide⟩ rfl rfl (Nat.le_of_ble_eq_true rfl) ⟨Nat.zero_le _, Nat.zero_le _⟩ dX12_pilgrim_9 (fun v2 Z3 I4 L5 q6 => ?_)
  obtain ⟨rfl, r7, rfl, zr7, h⟩ := q6
  show jJ G 5 12 [(0, .ref v0), (1, .int v1), (2, .int v2), (3, .int v3), (4, .int v4)] [.int r7] Z I4 L5 0 0
  refine j_if_eq E 55 dX12_pilgrim_12 (by decide) (fun c8 => ?_) (fun c8 => ?_)
  · have h := h.1 c8
    refine j_iconst E (v := -1) dX12_pilgrim_55 (by decide) ?_
    exact j_ireturn E ⟨rfl, _, rfl, h⟩ (Nat.zero_le _) (Nat.zero_le _) dX12_pilgrim_56
  · have h := h.2 c8
    refine j_iload_n E dX12_pilgrim_15 2 rfl ?_
    refine j_iconst E (v := 0) dX12_pilgrim_16 (by decide) ?_
    refine j_sipush E (v := 999) dX12_pilgrim_17 (by decide) ?_
    refine j_callS E [.int v2, .int (0 : Int32), .int (999 : Int32)] [] (c_X12_in (gL G) (gD G) (gY G) v2 (0 : Int32) (999 : Int32) Z I4 L5 _ hZ  h) (gwS W_680 W_681 W_679 W_678) rfl fy_X12_in ⟨by decide, by decide⟩ rfl rfl (Nat.le_of_ble_eq_true rfl) ⟨Nat.zero_le _, Nat.zero_le _⟩ dX12_pilgrim_20 (fun v9 Z10 I11 L12 q13 => ?_)
    obtain ⟨rfl, r14, rfl, zr14, h⟩ := q13
    show jJ G 5 23 [(0, .ref v0), (1, .int v1), (2, .int v2), (3, .int v3), (4, .int v4)] [.int r14] Z I11 L12 0 0
    refine j_if_eq E 55 dX12_pilgrim_23 (by decide) (fun c15 => ?_) (fun c15 => ?_)
    · have h := h.1 c15
      refine j_iconst E (v := -1) dX12_pilgrim_55 (by decide) ?_
      exact j_ireturn E ⟨rfl, _, rfl, h⟩ (Nat.zero_le _) (Nat.zero_le _) dX12_pilgrim_56
    · have h := h.2 c15
      refine j_iload_n E dX12_pilgrim_26 3 rfl ?_
      refine j_iconst E (v := 1) dX12_pilgrim_27 (by decide) ?_
      refine j_iconst E (v := 3) dX12_pilgrim_28 (by decide) ?_
      refine j_callS E [.int v3, .int (1 : Int32), .int (3 : Int32)] [] (c_X12_in (gL G) (gD G) (gY G) v3 (1 : Int32) (3 : Int32) Z I11 L12 _ hZ  h) (gwS W_680 W_681 W_679 W_678) rfl fy_X12_in ⟨by decide, by decide⟩ rfl rfl (Nat.le_of_ble_eq_true rfl) ⟨Nat.zero_le _, Nat.zero_le _⟩ dX12_pilgrim_29 (fun v16 Z17 I18 L19 q20 => ?_)
      obtain ⟨rfl, r21, rfl, zr21, h⟩ := q20
      show jJ G 5 32 [(0, .ref v0), (1, .int v1), (2, .int v2), (3, .int v3), (4, .int v4)] [.int r21] Z I18 L19 0 0
      refine j_if_eq E 55 dX12_pilgrim_32 (by decide) (fun c22 => ?_) (fun c22 => ?_)
      · have h := h.1 c22
        refine j_iconst E (v := -1) dX12_pilgrim_55 (by decide) ?_
        exact j_ireturn E ⟨rfl, _, rfl, h⟩ (Nat.zero_le _) (Nat.zero_le _) dX12_pilgrim_56
      · have h := h.2 c22
        refine j_iload E dX12_pilgrim_35 4 rfl ?_
        refine j_iconst E (v := 0) dX12_pilgrim_37 (by decide) ?_
        refine j_bipush E (v := 50) dX12_pilgrim_38 (by decide) ?_
        refine j_callS E [.int v4, .int (0 : Int32), .int (50 : Int32)] [] (c_X12_in (gL G) (gD G) (gY G) v4 (0 : Int32) (50 : Int32) Z I18 L19 _ hZ  h) (gwS W_680 W_681 W_679 W_678) rfl fy_X12_in ⟨by decide, by decide⟩ rfl rfl (Nat.le_of_ble_eq_true rfl) ⟨Nat.zero_le _, Nat.zero_le _⟩ dX12_pilgrim_40 (fun v23 Z24 I25 L26 q27 => ?_)
        obtain ⟨rfl, r28, rfl, zr28, h⟩ := q27
        show jJ G 5 43 [(0, .ref v0), (1, .int v1), (2, .int v2), (3, .int v3), (4, .int v4)] [.int r28] Z I25 L26 0 0
        refine j_if_eq E 55 dX12_pilgrim_43 (by decide) (fun c29 => ?_) (fun c29 => ?_)
        · have h := h.1 c29
          refine j_iconst E (v := -1) dX12_pilgrim_55 (by decide) ?_
          exact j_ireturn E ⟨rfl, _, rfl, h⟩ (Nat.zero_le _) (Nat.zero_le _) dX12_pilgrim_56
        · have h := h.2 c29
          refine j_aload_n E dX12_pilgrim_46 0 rfl ?_
          refine j_geti E 12 8 rfl rfl (by decide) (by decide) (iw iT_12) rfl rfl (tw W_682) kv0 dX12_pilgrim_47 ?_
          refine j_bipush E (v := 6) dX12_pilgrim_50 (by decide) ?_
          refine j_icmp_ne E 57 dX12_pilgrim_52 (by decide) (fun c30 => ?_) (fun c30 => ?_)
          · have h := h.1 c30
            refine j_aload_n E dX12_pilgrim_57 0 rfl ?_
            obtain ⟨b31, eb31, kb31, lb31⟩ := sh_f hZ kv0 (j := 9) (k := 14) (m := 6) rfl
            have h := h b31 eb31
            refine j_getr E 12 9 rfl rfl (by decide) (by decide) (iw iT_12) rfl rfl (tw W_718) kv0 eb31 dX12_pilgrim_58 ?_
            refine j_aload_n E dX12_pilgrim_61 0 rfl ?_
            refine j_geti E 12 8 rfl rfl (by decide) (by decide) (iw iT_12) rfl rfl (tw W_682) kv0 dX12_pilgrim_62 ?_
            refine j_iload_n E dX12_pilgrim_65 1 rfl ?_
            obtain ⟨o32, h⟩ := h
            refine j_iast E kb31 (by rw [lb31]; exact o32) dX12_pilgrim_66 ?_
            refine j_nmI (fun I33 eI33 => ?_)
            have h := h I33 eI33
            refine j_aload_n E dX12_pilgrim_67 0 rfl ?_
            obtain ⟨b34, eb34, kb34, lb34⟩ := sh_f hZ kv0 (j := 10) (k := 14) (m := 6) rfl
            have h := h b34 eb34
            refine j_getr E 12 10 rfl rfl (by decide) (by decide) (iw iT_12) rfl rfl (tw W_720) kv0 eb34 dX12_pilgrim_68 ?_
            refine j_aload_n E dX12_pilgrim_71 0 rfl ?_
            refine j_geti E 12 8 rfl rfl (by decide) (by decide) (iw iT_12) rfl rfl (tw W_682) kv0 dX12_pilgrim_72 ?_
            refine j_iload_n E dX12_pilgrim_75 2 rfl ?_
            obtain ⟨o35, h⟩ := h
            refine j_iast E kb34 (by rw [lb34]; exact o35) dX12_pilgrim_76 ?_
            refine j_nmI (fun I36 eI36 => ?_)
            have h := h I36 eI36
            refine j_aload_n E dX12_pilgrim_77 0 rfl ?_
            obtain ⟨b37, eb37, kb37, lb37⟩ := sh_f hZ kv0 (j := 11) (k := 14) (m := 6) rfl
            have h := h b37 eb37
            refine j_getr E 12 11 rfl rfl (by decide) (by decide) (iw iT_12) rfl rfl (tw W_764) kv0 eb37 dX12_pilgrim_78 ?_
            refine j_aload_n E dX12_pilgrim_81 0 rfl ?_
            refine j_geti E 12 8 rfl rfl (by decide) (by decide) (iw iT_12) rfl rfl (tw W_682) kv0 dX12_pilgrim_82 ?_
            refine j_iload_n E dX12_pilgrim_85 3 rfl ?_
            obtain ⟨o38, h⟩ := h
            refine j_iast E kb37 (by rw [lb37]; exact o38) dX12_pilgrim_86 ?_
            refine j_nmI (fun I39 eI39 => ?_)
            have h := h I39 eI39
            refine j_aload_n E dX12_pilgrim_87 0 rfl ?_
            obtain ⟨b40, eb40, kb40, lb40⟩ := sh_f hZ kv0 (j := 12) (k := 14) (m := 6) rfl
            have h := h b40 eb40
            refine j_getr E 12 12 rfl rfl (by decide) (by decide) (iw iT_12) rfl rfl (tw W_765) kv0 eb40 dX12_pilgrim_88 ?_
            refine j_aload_n E dX12_pilgrim_91 0 rfl ?_
            refine j_geti E 12 8 rfl rfl (by decide) (by decide) (iw iT_12) rfl rfl (tw W_682) kv0 dX12_pilgrim_92 ?_
            refine j_iload E dX12_pilgrim_95 4 rfl ?_
            obtain ⟨o41, h⟩ := h
            refine j_iast E kb40 (by rw [lb40]; exact o41) dX12_pilgrim_97 ?_
            refine j_nmI (fun I42 eI42 => ?_)
            have h := h I42 eI42
            refine j_aload_n E dX12_pilgrim_98 0 rfl ?_
            obtain ⟨b43, eb43, kb43, lb43⟩ := sh_f hZ kv0 (j := 13) (k := 14) (m := 6) rfl
            have h := h b43 eb43
            refine j_getr E 12 13 rfl rfl (by decide) (by decide) (iw iT_12) rfl rfl (tw W_766) kv0 eb43 dX12_pilgrim_99 ?_
            refine j_aload_n E dX12_pilgrim_102 0 rfl ?_
            refine j_geti E 12 8 rfl rfl (by decide) (by decide) (iw iT_12) rfl rfl (tw W_682) kv0 dX12_pilgrim_103 ?_
            refine j_iconst E (v := 0) dX12_pilgrim_106 (by decide) ?_
            obtain ⟨o44, h⟩ := h
            refine j_iast E kb43 (by rw [lb43]; exact o44) dX12_pilgrim_107 ?_
            refine j_nmI (fun I45 eI45 => ?_)
            have h := h I45 eI45
            refine j_aload_n E dX12_pilgrim_108 0 rfl ?_
            obtain ⟨b46, eb46, kb46, lb46⟩ := sh_f hZ kv0 (j := 14) (k := 14) (m := 6) rfl
            have h := h b46 eb46
            refine j_getr E 12 14 rfl rfl (by decide) (by decide) (iw iT_12) rfl rfl (tw W_716) kv0 eb46 dX12_pilgrim_109 ?_
            refine j_aload_n E dX12_pilgrim_112 0 rfl ?_
            refine j_geti E 12 8 rfl rfl (by decide) (by decide) (iw iT_12) rfl rfl (tw W_682) kv0 dX12_pilgrim_113 ?_
            refine j_iconst E (v := -1) dX12_pilgrim_116 (by decide) ?_
            obtain ⟨o47, h⟩ := h
            refine j_iast E kb46 (by rw [lb46]; exact o47) dX12_pilgrim_117 ?_
            refine j_nmI (fun I48 eI48 => ?_)
            have h := h I48 eI48
            refine j_aload_n E dX12_pilgrim_118 0 rfl ?_
            obtain ⟨b49, eb49, kb49, lb49⟩ := sh_f hZ kv0 (j := 15) (k := 14) (m := 6) rfl
            have h := h b49 eb49
            refine j_getr E 12 15 rfl rfl (by decide) (by decide) (iw iT_12) rfl rfl (tw W_717) kv0 eb49 dX12_pilgrim_119 ?_
            refine j_aload_n E dX12_pilgrim_122 0 rfl ?_
            refine j_geti E 12 8 rfl rfl (by decide) (by decide) (iw iT_12) rfl rfl (tw W_682) kv0 dX12_pilgrim_123 ?_
            refine j_iload_n E dX12_pilgrim_126 1 rfl ?_
            obtain ⟨o50, h⟩ := h
            refine j_iast E kb49 (by rw [lb49]; exact o50) dX12_pilgrim_127 ?_
            refine j_nmI (fun I51 eI51 => ?_)
            have h := h I51 eI51
            refine j_aload_n E dX12_pilgrim_128 0 rfl ?_
            obtain ⟨b52, eb52, kb52, lb52⟩ := sh_f hZ kv0 (j := 16) (k := 14) (m := 6) rfl
            have h := h b52 eb52
            refine j_getr E 12 16 rfl rfl (by decide) (by decide) (iw iT_12) rfl rfl (tw W_719) kv0 eb52 dX12_pilgrim_129 ?_
            refine j_aload_n E dX12_pilgrim_132 0 rfl ?_
            refine j_geti E 12 8 rfl rfl (by decide) (by decide) (iw iT_12) rfl rfl (tw W_682) kv0 dX12_pilgrim_133 ?_
            refine j_iload_n E dX12_pilgrim_136 2 rfl ?_
            obtain ⟨o53, h⟩ := h
            refine j_iast E kb52 (by rw [lb52]; exact o53) dX12_pilgrim_137 ?_
            refine j_nmI (fun I54 eI54 => ?_)
            have h := h I54 eI54
            refine j_aload_n E dX12_pilgrim_138 0 rfl ?_
            refine j_dup E dX12_pilgrim_139 rfl ?_
            refine j_geti E 12 8 rfl rfl (by decide) (by decide) (iw iT_12) rfl rfl (tw W_682) kv0 dX12_pilgrim_140 ?_
            refine j_iconst E (v := 1) dX12_pilgrim_143 (by decide) ?_
            refine j_iadd E dX12_pilgrim_144 ?_
            refine j_puti E 12 8 rfl rfl (by decide) (by decide) (iw iT_12) tyX12_ok nmX12 rfl rfl (tw W_682) rfl rfl rfl kv0 dX12_pilgrim_145 ?_
            refine j_nmI (fun I55 eI55 => ?_)
            have h := h I55 eI55
            refine j_aload_n E dX12_pilgrim_148 0 rfl ?_
            refine j_geti E 12 8 rfl rfl (by decide) (by decide) (iw iT_12) rfl rfl (tw W_682) kv0 dX12_pilgrim_149 ?_
            refine j_iconst E (v := 1) dX12_pilgrim_152 (by decide) ?_
            refine j_isub E dX12_pilgrim_153 ?_
            exact j_ireturn E ⟨rfl, _, rfl, h⟩ (Nat.zero_le _) (Nat.zero_le _) dX12_pilgrim_154
          · have h := h.2 c30
            refine j_iconst E (v := -1) dX12_pilgrim_55 (by decide) ?_
            exact j_ireturn E ⟨rfl, _, rfl, h⟩ (Nat.zero_le _) (Nat.zero_le _) dX12_pilgrim_56
set_option maxRecDepth 100000 in
def f_X12_vow (v0 : Nat) (v1 : Int32) (v2 : Int32) (Z : jZ) (I : jI) (L : jL) (Q : Int32 → jI → jL → Prop) : Prop := (∀ I1 : jI, I1 = jpI I v0 22 (0 : Int32) → (f_X12_isOne v0 v1 Z I1 L (fun r7 I4 L5 => ((r7 = 0 → Q (-1 : Int32) I4 L5) ∧ (¬ (r7 = 0) → (f_X12_in v2 (0 : Int32) (255 : Int32) Z I4 L5 (fun r14 I11 L12 => ((¬ r14 = 0 → (∀ b16 : Nat, jr Z v0 13 = some b16 → (vp_in v1 6 ∧ (∀ x18 : Int32, x18 = (I11 b16 v1.toNatClampNeg) → (∀ b19 : Nat, jr Z v0 13 = some b19 → (vp_in v1 6 ∧ (∀ I21 : jI, I21 = jpI I11 b19 v1.toNatClampNeg v2 → Q x18 I21 L12))))))) ∧ (r14 = 0 → Q (-1 : Int32) I11 L12)))))))))
set_option maxHeartbeats 4000000 in
set_option maxRecDepth 100000 in
theorem c_X12_vow (l : Launch) (D : va_G) (cy : jC) (v0 : Nat) (v1 : Int32) (v2 : Int32) (Z : jZ) (I : jI) (L : jL) (Q : Int32 → jI → jL → Prop) (hZ : SH Z) (kv0 : jk Z v0 12) (h : f_X12_vow v0 v1 v2 Z I L Q) : jCt l yX12_vow w_X12_vow { frames := 2, cells := 0, slots := 0, locals := 43 } D cy [.ref v0, .int v1, .int v2] Z I L (rtI Z Q) := by
  refine jCt_of (cc := cX12_vow) (maxL := 4) (ret := (some .int)) (by decide +kernel) rfl (Nat.le_of_ble_eq_true rfl) ?_
  intro G eD eY eL E
  subst eD; subst eY; subst eL
  have E : jE G cX12_vow RX12 w_X12_vow 4 (some .int) { frames := 2, cells := 0, slots := 0, locals := 43 } (rtI Z Q) := E
  show jJ G 4 0 [(0, .ref v0), (1, .int v1), (2, .int v2)] [] Z I L 0 0
  refine j_aload_n E dX12_vow_0 0 rfl ?_
  refine j_iconst E (v := 0) dX12_vow_1 (by decide) ?_
  refine j_puti E 12 22 rfl rfl (by decide) (by decide) (iw iT_12) tyX12_ok nmX12 rfl rfl (tw W_674) rfl rfl rfl kv0 dX12_vow_2 ?_
  refine j_nmI (fun I1 eI1 => ?_)
  have h := h I1 eI1
  refine j_aload_n E dX12_vow_5 0 rfl ?_
  refine j_iload_n E dX12_vow_6 1 rfl ?_
  refine j_callV E [.int v1] [] (c_X12_isOne (gL G) (gD G) (gY G) v0 v1 Z I1 L _ hZ kv0 h) (gwV W_768 W_769 W_770 W_679 W_767) rfl ⟨rfl, fy_X12_isOne⟩ ⟨by decide, by decide⟩ (c := 12) rfl (by decide) kv0 rfl rfl (Nat.le_of_ble_eq_true rfl) ⟨Nat.zero_le _, Nat.zero_le _⟩ dX12_vow_7 (fun v2 Z3 I4 L5 q6 => ?_)
  obtain ⟨rfl, r7, rfl, zr7, h⟩ := q6
  show jJ G 4 10 [(0, .ref v0), (1, .int v1), (2, .int v2)] [.int r7] Z I4 L5 0 0
  refine j_if_eq E 24 dX12_vow_10 (by decide) (fun c8 => ?_) (fun c8 => ?_)
  · have h := h.1 c8
    refine j_iconst E (v := -1) dX12_vow_24 (by decide) ?_
    exact j_ireturn E ⟨rfl, _, rfl, h⟩ (Nat.zero_le _) (Nat.zero_le _) dX12_vow_25
  · have h := h.2 c8
    refine j_iload_n E dX12_vow_13 2 rfl ?_
    refine j_iconst E (v := 0) dX12_vow_14 (by decide) ?_
    refine j_sipush E (v := 255) dX12_vow_15 (by decide) ?_
    refine j_callS E [.int v2, .int (0 : Int32), .int (255 : Int32)] [] (c_X12_in (gL G) (gD G) (gY G) v2 (0 : Int32) (255 : Int32) Z I4 L5 _ hZ  h) (gwS W_680 W_681 W_679 W_678) rfl fy_X12_in ⟨by decide, by decide⟩ rfl rfl (Nat.le_of_ble_eq_true rfl) ⟨Nat.zero_le _, Nat.zero_le _⟩ dX12_vow_18 (fun v9 Z10 I11 L12 q13 => ?_)
    obtain ⟨rfl, r14, rfl, zr14, h⟩ := q13
    show jJ G 4 21 [(0, .ref v0), (1, .int v1), (2, .int v2)] [.int r14] Z I11 L12 0 0
    refine j_if_ne E 26 dX12_vow_21 (by decide) (fun c15 => ?_) (fun c15 => ?_)
    · have h := h.1 c15
      refine j_aload_n E dX12_vow_26 0 rfl ?_
      obtain ⟨b16, eb16, kb16, lb16⟩ := sh_f hZ kv0 (j := 13) (k := 14) (m := 6) rfl
      have h := h b16 eb16
      refine j_getr E 12 13 rfl rfl (by decide) (by decide) (iw iT_12) rfl rfl (tw W_766) kv0 eb16 dX12_vow_27 ?_
      refine j_iload_n E dX12_vow_30 1 rfl ?_
      obtain ⟨o17, h⟩ := h
      refine j_iald E kb16 (by rw [lb16]; exact o17) dX12_vow_31 ?_
      refine j_topi (fun x18 ex18 => ?_)
      have h := h x18 ex18
      refine j_istore_n E 3 [(3, .int x18), (0, .ref v0), (1, .int v1), (2, .int v2)] dX12_vow_32 rfl (by decide) rfl ?_
      refine j_aload_n E dX12_vow_33 1 rfl ?_
      obtain ⟨b19, eb19, kb19, lb19⟩ := sh_f hZ kv0 (j := 13) (k := 14) (m := 6) rfl
      have h := h b19 eb19
      refine j_getr E 12 13 rfl rfl (by decide) (by decide) (iw iT_12) rfl rfl (tw W_766) kv0 eb19 dX12_vow_34 ?_
      refine j_iload_n E dX12_vow_37 2 rfl ?_
      refine j_iload_n E dX12_vow_38 3 rfl ?_
      obtain ⟨o20, h⟩ := h
      refine j_iast E kb19 (by rw [lb19]; exact o20) dX12_vow_39 ?_
      refine j_nmI (fun I21 eI21 => ?_)
      have h := h I21 eI21
      refine j_iload_n E dX12_vow_40 0 rfl ?_
      exact j_ireturn E ⟨rfl, _, rfl, h⟩ (Nat.zero_le _) (Nat.zero_le _) dX12_vow_41
    · have h := h.2 c15
      refine j_iconst E (v := -1) dX12_vow_24 (by decide) ?_
      exact j_ireturn E ⟨rfl, _, rfl, h⟩ (Nat.zero_le _) (Nat.zero_le _) dX12_vow_25
set_option maxRecDepth 100000 in
def f_X12_of_b23  (Z : jZ) (Q : Int32 → jI → jL → Prop) (v0 : Nat) (I : jI) (L : jL) : Prop := (f_X12_lost v0 Z I L (fun r6 I3 L4 => Q r6 I3 L4))
set_option maxHeartbeats 4000000 in
set_option maxRecDepth 100000 in
theorem m_X12_of_b23 {G : jG} {Z : jZ} {Q : Int32 → jI → jL → Prop} (E : jE G cX12_of RX12 w_X12_of 3 (some .int) { frames := 2, cells := 0, slots := 0, locals := 43 } (rtI Z Q)) (hZ : SH Z)  (v0 : Nat) (I : jI) (L : jL) (kv0 : jk Z v0 12) (h : f_X12_of_b23  Z Q v0 I L) : jJ G 3 23 [(0, .ref v0)] [] Z I L 0 0 := by
  refine j_aload_n E dX12_of_23 0 rfl ?_
  refine j_callV E [] [] (c_X12_lost (gL G) (gD G) (gY G) v0 Z I L _ hZ kv0 h) (gwV W_748 W_749 W_750 W_679 W_747) rfl ⟨rfl, fy_X12_lost⟩ ⟨by decide, by decide⟩ (c := 12) rfl (by decide) kv0 rfl rfl (Nat.le_of_ble_eq_true rfl) ⟨Nat.zero_le _, Nat.zero_le _⟩ dX12_of_24 (fun v1 Z2 I3 L4 q5 => ?_)
  obtain ⟨rfl, r6, rfl, h⟩ := q5
  show jJ G 3 27 [(0, .ref v0)] [.int r6] Z I3 L4 0 0
  exact j_ireturn E ⟨rfl, _, rfl, h⟩ (Nat.zero_le _) (Nat.zero_le _) dX12_of_27
set_option maxRecDepth 100000 in
def f_X12_of (v0 : Nat) (v1 : Int32) (v2 : Int32) (Z : jZ) (I : jI) (L : jL) (Q : Int32 → jI → jL → Prop) : Prop := (∀ I7 : jI, I7 = jpI I v0 22 (0 : Int32) → (f_X12_isOne v0 v1 Z I7 L (fun r13 I10 L11 => ((r13 = 0 → f_X12_of_b23  Z Q v0 I10 L11) ∧ (¬ (r13 = 0) → (f_X12_in v2 (0 : Int32) (7 : Int32) Z I10 L11 (fun r20 I17 L18 => ((¬ r20 = 0 → ((v2 = 0 → (∀ b23 : Nat, jr Z v0 14 = some b23 → (vp_in v1 6 ∧ Q (I17 b23 v1.toNatClampNeg) I17 L18))) ∧ (¬ v2 = 0 → ((v2 = 1 → (∀ b26 : Nat, jr Z v0 15 = some b26 → (vp_in v1 6 ∧ Q (I17 b26 v1.toNatClampNeg) I17 L18))) ∧ (¬ v2 = 1 → ((v2 = 2 → (∀ b29 : Nat, jr Z v0 16 = some b29 → (vp_in v1 6 ∧ Q (I17 b29 v1.toNatClampNeg) I17 L18))) ∧ (¬ v2 = 2 → ((v2 = 3 → (∀ b32 : Nat, jr Z v0 11 = some b32 → (vp_in v1 6 ∧ Q (I17 b32 v1.toNatClampNeg) I17 L18))) ∧ (¬ v2 = 3 → ((v2 = 4 → (∀ b35 : Nat, jr Z v0 12 = some b35 → (vp_in v1 6 ∧ Q (I17 b35 v1.toNatClampNeg) I17 L18))) ∧ (¬ v2 = 4 → ((v2 = 5 → (∀ b38 : Nat, jr Z v0 13 = some b38 → (vp_in v1 6 ∧ Q (I17 b38 v1.toNatClampNeg) I17 L18))) ∧ (¬ v2 = 5 → ((v2 = 6 → (∀ b41 : Nat, jr Z v0 9 = some b41 → (vp_in v1 6 ∧ Q (I17 b41 v1.toNatClampNeg) I17 L18))) ∧ (¬ v2 = 6 → (∀ b43 : Nat, jr Z v0 10 = some b43 → (vp_in v1 6 ∧ Q (I17 b43 v1.toNatClampNeg) I17 L18))))))))))))))))) ∧ (r20 = 0 → f_X12_of_b23  Z Q v0 I17 L18)))))))))
set_option maxHeartbeats 4000000 in
set_option maxRecDepth 100000 in
theorem c_X12_of (l : Launch) (D : va_G) (cy : jC) (v0 : Nat) (v1 : Int32) (v2 : Int32) (Z : jZ) (I : jI) (L : jL) (Q : Int32 → jI → jL → Prop) (hZ : SH Z) (kv0 : jk Z v0 12) (h : f_X12_of v0 v1 v2 Z I L Q) : jCt l yX12_of w_X12_of { frames := 2, cells := 0, slots := 0, locals := 43 } D cy [.ref v0, .int v1, .int v2] Z I L (rtI Z Q) := by
  refine jCt_of (cc := cX12_of) (maxL := 3) (ret := (some .int)) (by decide +kernel) rfl (Nat.le_of_ble_eq_true rfl) ?_
  intro G eD eY eL E
  subst eD; subst eY; subst eL
  have E : jE G cX12_of RX12 w_X12_of 3 (some .int) { frames := 2, cells := 0, slots := 0, locals := 43 } (rtI Z Q) := E
  show jJ G 3 0 [(0, .ref v0), (1, .int v1), (2, .int v2)] [] Z I L 0 0
  refine j_aload_n E dX12_of_0 0 rfl ?_
  refine j_iconst E (v := 0) dX12_of_1 (by decide) ?_
  refine j_puti E 12 22 rfl rfl (by decide) (by decide) (iw iT_12) tyX12_ok nmX12 rfl rfl (tw W_674) rfl rfl rfl kv0 dX12_of_2 ?_
  refine j_nmI (fun I7 eI7 => ?_)
  have h := h I7 eI7
  refine j_aload_n E dX12_of_5 0 rfl ?_
  refine j_iload_n E dX12_of_6 1 rfl ?_
  refine j_callV E [.int v1] [] (c_X12_isOne (gL G) (gD G) (gY G) v0 v1 Z I7 L _ hZ kv0 h) (gwV W_768 W_769 W_770 W_679 W_767) rfl ⟨rfl, fy_X12_isOne⟩ ⟨by decide, by decide⟩ (c := 12) rfl (by decide) kv0 rfl rfl (Nat.le_of_ble_eq_true rfl) ⟨Nat.zero_le _, Nat.zero_le _⟩ dX12_of_7 (fun v8 Z9 I10 L11 q12 => ?_)
  obtain ⟨rfl, r13, rfl, zr13, h⟩ := q12
  show jJ G 3 10 [(0, .ref v0), (1, .int v1), (2, .int v2)] [.int r13] Z I10 L11 0 0
  refine j_if_eq E 23 dX12_of_10 (by decide) (fun c14 => ?_) (fun c14 => ?_)
  · have h := h.1 c14
    refine j_sub [0] rfl ?_
    exact m_X12_of_b23 E hZ  v0 I10 L11 kv0 h
  · have h := h.2 c14
    refine j_iload_n E dX12_of_13 2 rfl ?_
    refine j_iconst E (v := 0) dX12_of_14 (by decide) ?_
    refine j_bipush E (v := 7) dX12_of_15 (by decide) ?_
    refine j_callS E [.int v2, .int (0 : Int32), .int (7 : Int32)] [] (c_X12_in (gL G) (gD G) (gY G) v2 (0 : Int32) (7 : Int32) Z I10 L11 _ hZ  h) (gwS W_680 W_681 W_679 W_678) rfl fy_X12_in ⟨by decide, by decide⟩ rfl rfl (Nat.le_of_ble_eq_true rfl) ⟨Nat.zero_le _, Nat.zero_le _⟩ dX12_of_17 (fun v15 Z16 I17 L18 q19 => ?_)
    obtain ⟨rfl, r20, rfl, zr20, h⟩ := q19
    show jJ G 3 20 [(0, .ref v0), (1, .int v1), (2, .int v2)] [.int r20] Z I17 L18 0 0
    refine j_if_ne E 28 dX12_of_20 (by decide) (fun c21 => ?_) (fun c21 => ?_)
    · have h := h.1 c21
      refine j_iload_n E dX12_of_28 2 rfl ?_
      by_cases c22 : v2 = 0
      · have h := h.1 c22
        refine j_tableIn E (43) 72 dX12_of_29 (by rw [c22]; decide) (by rw [c22]; decide) (by rw [c22]; rfl) (by decide) ?_
        refine j_aload_n E dX12_of_72 0 rfl ?_
        obtain ⟨b23, eb23, kb23, lb23⟩ := sh_f hZ kv0 (j := 14) (k := 14) (m := 6) rfl
        have h := h b23 eb23
        refine j_getr E 12 14 rfl rfl (by decide) (by decide) (iw iT_12) rfl rfl (tw W_716) kv0 eb23 dX12_of_73 ?_
        refine j_iload_n E dX12_of_76 1 rfl ?_
        obtain ⟨o24, h⟩ := h
        refine j_iald E kb23 (by rw [lb23]; exact o24) dX12_of_77 ?_
        exact j_ireturn E ⟨rfl, _, rfl, h⟩ (Nat.zero_le _) (Nat.zero_le _) dX12_of_78
      · have h := h.2 c22
        by_cases c25 : v2 = 1
        · have h := h.1 c25
          refine j_tableIn E (50) 79 dX12_of_29 (by rw [c25]; decide) (by rw [c25]; decide) (by rw [c25]; rfl) (by decide) ?_
          refine j_aload_n E dX12_of_79 0 rfl ?_
          obtain ⟨b26, eb26, kb26, lb26⟩ := sh_f hZ kv0 (j := 15) (k := 14) (m := 6) rfl
          have h := h b26 eb26
          refine j_getr E 12 15 rfl rfl (by decide) (by decide) (iw iT_12) rfl rfl (tw W_717) kv0 eb26 dX12_of_80 ?_
          refine j_iload_n E dX12_of_83 1 rfl ?_
          obtain ⟨o27, h⟩ := h
          refine j_iald E kb26 (by rw [lb26]; exact o27) dX12_of_84 ?_
          exact j_ireturn E ⟨rfl, _, rfl, h⟩ (Nat.zero_le _) (Nat.zero_le _) dX12_of_85
        · have h := h.2 c25
          by_cases c28 : v2 = 2
          · have h := h.1 c28
            refine j_tableIn E (57) 86 dX12_of_29 (by rw [c28]; decide) (by rw [c28]; decide) (by rw [c28]; rfl) (by decide) ?_
            refine j_aload_n E dX12_of_86 0 rfl ?_
            obtain ⟨b29, eb29, kb29, lb29⟩ := sh_f hZ kv0 (j := 16) (k := 14) (m := 6) rfl
            have h := h b29 eb29
            refine j_getr E 12 16 rfl rfl (by decide) (by decide) (iw iT_12) rfl rfl (tw W_719) kv0 eb29 dX12_of_87 ?_
            refine j_iload_n E dX12_of_90 1 rfl ?_
            obtain ⟨o30, h⟩ := h
            refine j_iald E kb29 (by rw [lb29]; exact o30) dX12_of_91 ?_
            exact j_ireturn E ⟨rfl, _, rfl, h⟩ (Nat.zero_le _) (Nat.zero_le _) dX12_of_92
          · have h := h.2 c28
            by_cases c31 : v2 = 3
            · have h := h.1 c31
              refine j_tableIn E (64) 93 dX12_of_29 (by rw [c31]; decide) (by rw [c31]; decide) (by rw [c31]; rfl) (by decide) ?_
              refine j_aload_n E dX12_of_93 0 rfl ?_
              obtain ⟨b32, eb32, kb32, lb32⟩ := sh_f hZ kv0 (j := 11) (k := 14) (m := 6) rfl
              have h := h b32 eb32
              refine j_getr E 12 11 rfl rfl (by decide) (by decide) (iw iT_12) rfl rfl (tw W_764) kv0 eb32 dX12_of_94 ?_
              refine j_iload_n E dX12_of_97 1 rfl ?_
              obtain ⟨o33, h⟩ := h
              refine j_iald E kb32 (by rw [lb32]; exact o33) dX12_of_98 ?_
              exact j_ireturn E ⟨rfl, _, rfl, h⟩ (Nat.zero_le _) (Nat.zero_le _) dX12_of_99
            · have h := h.2 c31
              by_cases c34 : v2 = 4
              · have h := h.1 c34
                refine j_tableIn E (71) 100 dX12_of_29 (by rw [c34]; decide) (by rw [c34]; decide) (by rw [c34]; rfl) (by decide) ?_
                refine j_aload_n E dX12_of_100 0 rfl ?_
                obtain ⟨b35, eb35, kb35, lb35⟩ := sh_f hZ kv0 (j := 12) (k := 14) (m := 6) rfl
                have h := h b35 eb35
                refine j_getr E 12 12 rfl rfl (by decide) (by decide) (iw iT_12) rfl rfl (tw W_765) kv0 eb35 dX12_of_101 ?_
                refine j_iload_n E dX12_of_104 1 rfl ?_
                obtain ⟨o36, h⟩ := h
                refine j_iald E kb35 (by rw [lb35]; exact o36) dX12_of_105 ?_
                exact j_ireturn E ⟨rfl, _, rfl, h⟩ (Nat.zero_le _) (Nat.zero_le _) dX12_of_106
              · have h := h.2 c34
                by_cases c37 : v2 = 5
                · have h := h.1 c37
                  refine j_tableIn E (78) 107 dX12_of_29 (by rw [c37]; decide) (by rw [c37]; decide) (by rw [c37]; rfl) (by decide) ?_
                  refine j_aload_n E dX12_of_107 0 rfl ?_
                  obtain ⟨b38, eb38, kb38, lb38⟩ := sh_f hZ kv0 (j := 13) (k := 14) (m := 6) rfl
                  have h := h b38 eb38
                  refine j_getr E 12 13 rfl rfl (by decide) (by decide) (iw iT_12) rfl rfl (tw W_766) kv0 eb38 dX12_of_108 ?_
                  refine j_iload_n E dX12_of_111 1 rfl ?_
                  obtain ⟨o39, h⟩ := h
                  refine j_iald E kb38 (by rw [lb38]; exact o39) dX12_of_112 ?_
                  exact j_ireturn E ⟨rfl, _, rfl, h⟩ (Nat.zero_le _) (Nat.zero_le _) dX12_of_113
                · have h := h.2 c37
                  by_cases c40 : v2 = 6
                  · have h := h.1 c40
                    refine j_tableIn E (85) 114 dX12_of_29 (by rw [c40]; decide) (by rw [c40]; decide) (by rw [c40]; rfl) (by decide) ?_
                    refine j_aload_n E dX12_of_114 0 rfl ?_
                    obtain ⟨b41, eb41, kb41, lb41⟩ := sh_f hZ kv0 (j := 9) (k := 14) (m := 6) rfl
                    have h := h b41 eb41
                    refine j_getr E 12 9 rfl rfl (by decide) (by decide) (iw iT_12) rfl rfl (tw W_718) kv0 eb41 dX12_of_115 ?_
                    refine j_iload_n E dX12_of_118 1 rfl ?_
                    obtain ⟨o42, h⟩ := h
                    refine j_iald E kb41 (by rw [lb41]; exact o42) dX12_of_119 ?_
                    exact j_ireturn E ⟨rfl, _, rfl, h⟩ (Nat.zero_le _) (Nat.zero_le _) dX12_of_120
                  · have h := h.2 c40
                    refine j_tableOut E 121 dX12_of_29 (by have tc22 := lv_neT (k := 0) (a := 0) c22 rfl; have tc25 := lv_neT (k := 1) (a := 1) c25 rfl; have tc28 := lv_neT (k := 2) (a := 2) c28 rfl; have tc31 := lv_neT (k := 3) (a := 3) c31 rfl; have tc34 := lv_neT (k := 4) (a := 4) c34 rfl; have tc37 := lv_neT (k := 5) (a := 5) c37 rfl; have tc40 := lv_neT (k := 6) (a := 6) c40 rfl; omega) (by decide) ?_
                    refine j_aload_n E dX12_of_121 0 rfl ?_
                    obtain ⟨b43, eb43, kb43, lb43⟩ := sh_f hZ kv0 (j := 10) (k := 14) (m := 6) rfl
                    have h := h b43 eb43
                    refine j_getr E 12 10 rfl rfl (by decide) (by decide) (iw iT_12) rfl rfl (tw W_720) kv0 eb43 dX12_of_122 ?_
                    refine j_iload_n E dX12_of_125 1 rfl ?_
                    obtain ⟨o44, h⟩ := h
                    refine j_iald E kb43 (by rw [lb43]; exact o44) dX12_of_126 ?_
                    exact j_ireturn E ⟨rfl, _, rfl, h⟩ (Nat.zero_le _) (Nat.zero_le _) dX12_of_127
    · have h := h.2 c21
      refine j_sub [0] rfl ?_
      exact m_X12_of_b23 E hZ  v0 I17 L18 kv0 h
set_option maxRecDepth 100000 in
def f_X12_isMove (v0 : Nat) (v1 : Int32) (v2 : Int32) (v3 : Int32) (Z : jZ) (I : jI) (L : jL) (Q : Int32 → jI → jL → Prop) : Prop := (∀ b1 : Nat, jr Z v0 11 = some b1 → (vp_in v1 6 ∧ (f_X12_in (v3 - v2) (1 : Int32) (I b1 v1.toNatClampNeg) Z I L (fun r8 I5 L6 => Q r8 I5 L6))))
set_option maxHeartbeats 4000000 in
set_option maxRecDepth 100000 in
theorem c_X12_isMove (l : Launch) (D : va_G) (cy : jC) (v0 : Nat) (v1 : Int32) (v2 : Int32) (v3 : Int32) (Z : jZ) (I : jI) (L : jL) (Q : Int32 → jI → jL → Prop) (hZ : SH Z) (kv0 : jk Z v0 12) (h : f_X12_isMove v0 v1 v2 v3 Z I L Q) : jCt l yX12_isMove w_X12_isMove { frames := 1, cells := 0, slots := 0, locals := 22 } D cy [.ref v0, .int v1, .int v2, .int v3] Z I L (rtZ Z Q) := by
  refine jCt_of (cc := cX12_isMove) (maxL := 4) (ret := (some .boolean)) (by decide +kernel) rfl (Nat.le_of_ble_eq_true rfl) ?_
  intro G eD eY eL E
  subst eD; subst eY; subst eL
  have E : jE G cX12_isMove RX12 w_X12_isMove 4 (some .boolean) { frames := 1, cells := 0, slots := 0, locals := 22 } (rtZ Z Q) := E
  show jJ G 4 0 [(0, .ref v0), (1, .int v1), (2, .int v2), (3, .int v3)] [] Z I L 0 0
  refine j_iload_n E dX12_isMove_0 3 rfl ?_
  refine j_iload_n E dX12_isMove_1 2 rfl ?_
  refine j_isub E dX12_isMove_2 ?_
  refine j_iconst E (v := 1) dX12_isMove_3 (by decide) ?_
  refine j_aload_n E dX12_isMove_4 0 rfl ?_
  obtain ⟨b1, eb1, kb1, lb1⟩ := sh_f hZ kv0 (j := 11) (k := 14) (m := 6) rfl
  have h := h b1 eb1
  refine j_getr E 12 11 rfl rfl (by decide) (by decide) (iw iT_12) rfl rfl (tw W_764) kv0 eb1 dX12_isMove_5 ?_
  refine j_iload_n E dX12_isMove_8 1 rfl ?_
  obtain ⟨o2, h⟩ := h
  refine j_iald E kb1 (by rw [lb1]; exact o2) dX12_isMove_9 ?_
  refine j_callS E [.int (v3 - v2), .int (1 : Int32), .int (I b1 v1.toNatClampNeg)] [] (c_X12_in (gL G) (gD G) (gY G) (v3 - v2) (1 : Int32) (I b1 v1.toNatClampNeg) Z I L _ hZ  h) (gwS W_680 W_681 W_679 W_678) rfl fy_X12_in ⟨by decide, by decide⟩ rfl rfl (Nat.le_of_ble_eq_true rfl) ⟨Nat.zero_le _, Nat.zero_le _⟩ dX12_isMove_10 (fun v3 Z4 I5 L6 q7 => ?_)
  obtain ⟨rfl, r8, rfl, zr8, h⟩ := q7
  show jJ G 4 13 [(0, .ref v0), (1, .int v1), (2, .int v2), (3, .int v3)] [.int r8] Z I5 L6 0 0
  exact j_zreturn E zr8 ⟨rfl, _, rfl, zr8, h⟩ (Nat.zero_le _) (Nat.zero_le _) dX12_isMove_13
set_option maxRecDepth 100000 in
def f_X12_effortOf_L8  (Z : jZ) (Q : Int32 → jI → jL → Prop) : Nat → Nat → Int32 → Int32 → Int32 → Int32 → Int32 → jI → jL → Prop
  | 0 => fun _ _ _ _ _ _ _ _ => False
  | n + 1 => fun v0 v1 v2 v3 v4 v5 I L => ((v3 < v5 → (∀ b2 : Nat, jr Z v0 12 = some b2 → (vp_in v1 6 ∧ (∀ b4 : Nat, jr Z v0 2 = some b4 → (vp_in v3 24 ∧ Q (((((v4 * ((10 : Int32) + (I b2 v1.toNatClampNeg))) / (10 : Int32)) + (9 : Int32)) - (I b4 v3.toNatClampNeg)) + ((5 : Int32) * ((v3 - v2) - (1 : Int32)))) I L))))) ∧ (¬ (v3 < v5) → (∀ b6 : Nat, jr Z v0 1 = some b6 → (vp_in v5 24 ∧ (∀ x8 : Int32, x8 = (v4 + (I b6 v5.toNatClampNeg)) → (∀ x9 : Int32, x9 = v5 + 1 → (f_X12_effortOf_L8 Z Q n) v0 v1 v2 v3 x8 x9 I L))))))
set_option maxHeartbeats 4000000 in
set_option maxRecDepth 100000 in
theorem m_X12_effortOf_L8 {G : jG} {Z : jZ} {Q : Int32 → jI → jL → Prop} (E : jE G cX12_effortOf RX12 w_X12_effortOf 6 (some .int) { frames := 0, cells := 0, slots := 0, locals := 0 } (rtI Z Q)) (hZ : SH Z)  : ∀ (n : Nat) (v0 : Nat) (v1 : Int32) (v2 : Int32) (v3 : Int32) (v4 : Int32) (v5 : Int32) (I : jI) (L : jL), jk Z v0 12 → f_X12_effortOf_L8  Z Q n v0 v1 v2 v3 v4 v5 I L → jJ G 6 8 [(0, .ref v0), (1, .int v1), (2, .int v2), (3, .int v3), (4, .int v4), (5, .int v5)] [] Z I L 0 0 := by
  intro n
  induction n with
  | zero => intro v0 v1 v2 v3 v4 v5 I L _ h; exact h.elim
  | succ n ih =>
    intro v0 v1 v2 v3 v4 v5 I L kv0 h
    have h : ((v3 < v5 → (∀ b2 : Nat, jr Z v0 12 = some b2 → (vp_in v1 6 ∧ (∀ b4 : Nat, jr Z v0 2 = some b4 → (vp_in v3 24 ∧ Q (((((v4 * ((10 : Int32) + (I b2 v1.toNatClampNeg))) / (10 : Int32)) + (9 : Int32)) - (I b4 v3.toNatClampNeg)) + ((5 : Int32) * ((v3 - v2) - (1 : Int32)))) I L))))) ∧ (¬ (v3 < v5) → (∀ b6 : Nat, jr Z v0 1 = some b6 → (vp_in v5 24 ∧ (∀ x8 : Int32, x8 = (v4 + (I b6 v5.toNatClampNeg)) → (∀ x9 : Int32, x9 = v5 + 1 → (f_X12_effortOf_L8 Z Q n) v0 v1 v2 v3 x8 x9 I L)))))) := h
    obtain ⟨K8, eK8⟩ : ∃ K : Nat → Int32 → Int32 → Int32 → Int32 → Int32 → jI → jL → Prop, K = f_X12_effortOf_L8  Z Q n := ⟨_, rfl⟩
    have hK8 := ih
    clear eK8 K8
    generalize f_X12_effortOf_L8  Z Q n = K8 at hK8 h
    refine j_iload E dX12_effortOf_8 5 rfl ?_
    refine j_iload_n E dX12_effortOf_10 3 rfl ?_
    refine j_icmp_gt E 32 dX12_effortOf_11 (by decide) (fun c1 => ?_) (fun c1 => ?_)
    · have h := h.1 c1
      refine j_iload E dX12_effortOf_32 4 rfl ?_
      refine j_bipush E (v := 10) dX12_effortOf_34 (by decide) ?_
      refine j_aload_n E dX12_effortOf_36 0 rfl ?_
      obtain ⟨b2, eb2, kb2, lb2⟩ := sh_f hZ kv0 (j := 12) (k := 14) (m := 6) rfl
      have h := h b2 eb2
      refine j_getr E 12 12 rfl rfl (by decide) (by decide) (iw iT_12) rfl rfl (tw W_765) kv0 eb2 dX12_effortOf_37 ?_
      refine j_iload_n E dX12_effortOf_40 1 rfl ?_
      obtain ⟨o3, h⟩ := h
      refine j_iald E kb2 (by rw [lb2]; exact o3) dX12_effortOf_41 ?_
      refine j_iadd E dX12_effortOf_42 ?_
      refine j_imul E dX12_effortOf_43 ?_
      refine j_bipush E (v := 10) dX12_effortOf_44 (by decide) ?_
      refine j_idiv E dX12_effortOf_46 (by decide) ?_
      refine j_bipush E (v := 9) dX12_effortOf_47 (by decide) ?_
      refine j_iadd E dX12_effortOf_49 ?_
      refine j_aload_n E dX12_effortOf_50 0 rfl ?_
      obtain ⟨b4, eb4, kb4, lb4⟩ := sh_f hZ kv0 (j := 2) (k := 14) (m := 24) rfl
      have h := h b4 eb4
      refine j_getr E 12 2 rfl rfl (by decide) (by decide) (iw iT_12) rfl rfl (tw W_726) kv0 eb4 dX12_effortOf_51 ?_
      refine j_iload_n E dX12_effortOf_54 3 rfl ?_
      obtain ⟨o5, h⟩ := h
      refine j_iald E kb4 (by rw [lb4]; exact o5) dX12_effortOf_55 ?_
      refine j_isub E dX12_effortOf_56 ?_
      refine j_iconst E (v := 5) dX12_effortOf_57 (by decide) ?_
      refine j_iload_n E dX12_effortOf_58 3 rfl ?_
      refine j_iload_n E dX12_effortOf_59 2 rfl ?_
      refine j_isub E dX12_effortOf_60 ?_
      refine j_iconst E (v := 1) dX12_effortOf_61 (by decide) ?_
      refine j_isub E dX12_effortOf_62 ?_
      refine j_imul E dX12_effortOf_63 ?_
      refine j_iadd E dX12_effortOf_64 ?_
      exact j_ireturn E ⟨rfl, _, rfl, h⟩ (Nat.zero_le _) (Nat.zero_le _) dX12_effortOf_65
    · have h := h.2 c1
      refine j_iload E dX12_effortOf_14 4 rfl ?_
      refine j_aload_n E dX12_effortOf_16 0 rfl ?_
      obtain ⟨b6, eb6, kb6, lb6⟩ := sh_f hZ kv0 (j := 1) (k := 14) (m := 24) rfl
      have h := h b6 eb6
      refine j_getr E 12 1 rfl rfl (by decide) (by decide) (iw iT_12) rfl rfl (tw W_725) kv0 eb6 dX12_effortOf_17 ?_
      refine j_iload E dX12_effortOf_20 5 rfl ?_
      obtain ⟨o7, h⟩ := h
      refine j_iald E kb6 (by rw [lb6]; exact o7) dX12_effortOf_22 ?_
      refine j_iadd E dX12_effortOf_23 ?_
      refine j_topi (fun x8 ex8 => ?_)
      have h := h x8 ex8
      refine j_istore E 4 [(4, .int x8), (0, .ref v0), (1, .int v1), (2, .int v2), (3, .int v3), (5, .int v5)] dX12_effortOf_24 (by decide) rfl ?_
      obtain ⟨x9, ex9⟩ : ∃ y : Int32, y = v5 + 1 := ⟨_, rfl⟩
      have h := h x9 ex9
      refine j_iinc E x9 [(5, .int x9), (4, .int x8), (0, .ref v0), (1, .int v1), (2, .int v2), (3, .int v3)] dX12_effortOf_26 5 rfl (by rw [ex9]; rfl) (by decide) rfl ?_
      refine j_goto E 8 dX12_effortOf_29 (by decide) ?_
      refine j_sub [2, 3, 4, 5, 1, 0] rfl ?_
      exact hK8 v0 v1 v2 v3 x8 x9 I L kv0 h
set_option maxRecDepth 100000 in
def f_X12_effortOf (v0 : Nat) (v1 : Int32) (v2 : Int32) (v3 : Int32) (Z : jZ) (I : jI) (L : jL) (Q : Int32 → jI → jL → Prop) : Prop := (∀ x10 : Int32, x10 = (v2 + (1 : Int32)) → (∃ m8 : Nat, f_X12_effortOf_L8  Z Q m8 v0 v1 v2 v3 (0 : Int32) x10 I L))
set_option maxHeartbeats 4000000 in
set_option maxRecDepth 100000 in
theorem c_X12_effortOf (l : Launch) (D : va_G) (cy : jC) (v0 : Nat) (v1 : Int32) (v2 : Int32) (v3 : Int32) (Z : jZ) (I : jI) (L : jL) (Q : Int32 → jI → jL → Prop) (hZ : SH Z) (kv0 : jk Z v0 12) (h : f_X12_effortOf v0 v1 v2 v3 Z I L Q) : jCt l yX12_effortOf w_X12_effortOf { frames := 0, cells := 0, slots := 0, locals := 0 } D cy [.ref v0, .int v1, .int v2, .int v3] Z I L (rtI Z Q) := by
  refine jCt_of (cc := cX12_effortOf) (maxL := 6) (ret := (some .int)) (by decide +kernel) rfl (Nat.le_of_ble_eq_true rfl) ?_
  intro G eD eY eL E
  subst eD; subst eY; subst eL
  have E : jE G cX12_effortOf RX12 w_X12_effortOf 6 (some .int) { frames := 0, cells := 0, slots := 0, locals := 0 } (rtI Z Q) := E
  show jJ G 6 0 [(0, .ref v0), (1, .int v1), (2, .int v2), (3, .int v3)] [] Z I L 0 0
  refine j_iconst E (v := 0) dX12_effortOf_0 (by decide) ?_
  refine j_istore E 4 [(4, .int (0 : Int32)), (0, .ref v0), (1, .int v1), (2, .int v2), (3, .int v3)] dX12_effortOf_1 (by decide) rfl ?_
  refine j_iload_n E dX12_effortOf_3 3 rfl ?_
  refine j_iconst E (v := 1) dX12_effortOf_4 (by decide) ?_
  refine j_iadd E dX12_effortOf_5 ?_
  refine j_topi (fun x10 ex10 => ?_)
  have h := h x10 ex10
  refine j_istore E 5 [(5, .int x10), (4, .int (0 : Int32)), (0, .ref v0), (1, .int v1), (2, .int v2), (3, .int v3)] dX12_effortOf_6 (by decide) rfl ?_
  obtain ⟨n11, h⟩ := h
  refine j_sub [2, 3, 4, 5, 1, 0] rfl ?_
  exact m_X12_effortOf_L8 E hZ  n11 v0 v1 v2 v3 (0 : Int32) x10 I L kv0 h
set_option maxRecDepth 100000 in
def f_X12_costOf_L29  (Q : Int32 → jZ → jI → jL → Prop) : Nat → Nat → Int32 → Int32 → Int32 → Int32 → Int32 → Int32 → jZ → jI → jL → Prop
  | 0 => fun _ _ _ _ _ _ _ _ _ _ => False
  | n + 1 => fun v0 v1 v2 v3 v4 v5 v6 Z I L => ((v3 ≤ v6 → Q v5 Z I L) ∧ (¬ (v3 ≤ v6) → (∀ b2 : Nat, jr Z v0 12 = some b2 → (vp_in v1 6 ∧ (f_X12_lawOf v0 (1 : Int32) v6 v2 (I b2 v1.toNatClampNeg) v4 Z I L (fun r9 Z5 I6 L7 => (∀ x11 : Int32, x11 = (v5 + r9) → (∀ x12 : Int32, x12 = v6 + 1 → (f_X12_costOf_L29 Q n) v0 v1 v2 v3 v4 x11 x12 Z5 I6 L7))))))))
set_option maxHeartbeats 4000000 in
set_option maxRecDepth 100000 in
theorem m_X12_costOf_L29 {G : jG} {Z0 : jZ} {Q : Int32 → jZ → jI → jL → Prop} (E : jE G cX12_costOf RX12 w_X12_costOf 7 (some .int) { frames := 2, cells := 0, slots := 0, locals := 48 } (xrtI Z0 Q))  : ∀ (n : Nat) (v0 : Nat) (v1 : Int32) (v2 : Int32) (v3 : Int32) (v4 : Int32) (v5 : Int32) (v6 : Int32) (Z : jZ) (I : jI) (L : jL), SH Z → jext Z0 Z → jk Z v0 12 → f_X12_costOf_L29  Q n v0 v1 v2 v3 v4 v5 v6 Z I L → jJ G 7 29 [(0, .ref v0), (1, .int v1), (2, .int v2), (3, .int v3), (4, .int v4), (5, .int v5), (6, .int v6)] [] Z I L 0 0 := by
  intro n
  induction n with
  | zero => intro v0 v1 v2 v3 v4 v5 v6 Z I L _ _ _ h; exact h.elim
  | succ n ih =>
    intro v0 v1 v2 v3 v4 v5 v6 Z I L hZ hx kv0 h
    have h : ((v3 ≤ v6 → Q v5 Z I L) ∧ (¬ (v3 ≤ v6) → (∀ b2 : Nat, jr Z v0 12 = some b2 → (vp_in v1 6 ∧ (f_X12_lawOf v0 (1 : Int32) v6 v2 (I b2 v1.toNatClampNeg) v4 Z I L (fun r9 Z5 I6 L7 => (∀ x11 : Int32, x11 = (v5 + r9) → (∀ x12 : Int32, x12 = v6 + 1 → (f_X12_costOf_L29 Q n) v0 v1 v2 v3 v4 x11 x12 Z5 I6 L7)))))))) := h
    obtain ⟨K29, eK29⟩ : ∃ K : Nat → Int32 → Int32 → Int32 → Int32 → Int32 → Int32 → jZ → jI → jL → Prop, K = f_X12_costOf_L29  Q n := ⟨_, rfl⟩
    have hK29 := ih
    clear eK29 K29
    generalize f_X12_costOf_L29  Q n = K29 at hK29 h
    refine j_iload E dX12_costOf_29 6 rfl ?_
    refine j_iload_n E dX12_costOf_31 3 rfl ?_
    refine j_icmp_ge E 62 dX12_costOf_32 (by decide) (fun c1 => ?_) (fun c1 => ?_)
    · have h := h.1 c1
      refine j_iload E dX12_costOf_62 5 rfl ?_
      exact j_ireturn E ⟨hx, hZ, _, rfl, h⟩ (Nat.zero_le _) (Nat.zero_le _) dX12_costOf_64
    · have h := h.2 c1
      refine j_iload E dX12_costOf_35 5 rfl ?_
      refine j_aload_n E dX12_costOf_37 0 rfl ?_
      refine j_iconst E (v := 1) dX12_costOf_38 (by decide) ?_
      refine j_iload E dX12_costOf_39 6 rfl ?_
      refine j_iload_n E dX12_costOf_41 2 rfl ?_
      refine j_aload_n E dX12_costOf_42 0 rfl ?_
      obtain ⟨b2, eb2, kb2, lb2⟩ := sh_f hZ kv0 (j := 12) (k := 14) (m := 6) rfl
      have h := h b2 eb2
      refine j_getr E 12 12 rfl rfl (by decide) (by decide) (iw iT_12) rfl rfl (tw W_765) kv0 eb2 dX12_costOf_43 ?_
      refine j_iload_n E dX12_costOf_46 1 rfl ?_
      obtain ⟨o3, h⟩ := h
      refine j_iald E kb2 (by rw [lb2]; exact o3) dX12_costOf_47 ?_
      refine j_iload E dX12_costOf_48 4 rfl ?_
      refine j_callV E [.int (1 : Int32), .int v6, .int v2, .int (I b2 v1.toNatClampNeg), .int v4] [.int v5] (c_X12_lawOf (gL G) (gD G) (gY G) v0 (1 : Int32) v6 v2 (I b2 v1.toNatClampNeg) v4 Z I L _ hZ kv0 h) (gwV W_772 W_773 W_774 W_679 W_771) rfl ⟨rfl, fy_X12_lawOf⟩ ⟨by decide, by decide⟩ (c := 12) rfl (by decide) kv0 rfl rfl (Nat.le_of_ble_eq_true rfl) ⟨Nat.zero_le _, Nat.zero_le _⟩ dX12_costOf_50 (fun v4 Z5 I6 L7 q8 => ?_)
      obtain ⟨yZ5, hZ5, r9, rfl, h⟩ := q8
      have hZ := hZ5
      have hx : jext Z0 Z5 := jext_trans hx yZ5
      have k10 := (yZ5 _ _ kv0).1
      show jJ G 7 53 [(0, .ref v0), (1, .int v1), (2, .int v2), (3, .int v3), (4, .int v4), (5, .int v5), (6, .int v6)] [.int r9, .int v5] Z5 I6 L7 0 0
      refine j_iadd E dX12_costOf_53 ?_
      refine j_topi (fun x11 ex11 => ?_)
      have h := h x11 ex11
      refine j_istore E 5 [(5, .int x11), (0, .ref v0), (1, .int v1), (2, .int v2), (3, .int v3), (4, .int v4), (6, .int v6)] dX12_costOf_54 (by decide) rfl ?_
      obtain ⟨x12, ex12⟩ : ∃ y : Int32, y = v6 + 1 := ⟨_, rfl⟩
      have h := h x12 ex12
      refine j_iinc E x12 [(6, .int x12), (5, .int x11), (0, .ref v0), (1, .int v1), (2, .int v2), (3, .int v3), (4, .int v4)] dX12_costOf_56 6 rfl (by rw [ex12]; rfl) (by decide) rfl ?_
      refine j_goto E 29 dX12_costOf_59 (by decide) ?_
      refine j_sub [2, 3, 4, 5, 6, 1, 0] rfl ?_
      exact hK29 v0 v1 v2 v3 v4 x11 x12 Z5 I6 L7 hZ hx k10 h
set_option maxRecDepth 100000 in
def f_X12_costOf (v0 : Nat) (v1 : Int32) (v2 : Int32) (v3 : Int32) (Z : jZ) (I : jI) (L : jL) (Q : Int32 → jZ → jI → jL → Prop) : Prop := (∀ x13 : Int32, x13 = ((v3 - v2) - (1 : Int32)) → (∀ b14 : Nat, jr Z v0 12 = some b14 → (vp_in v1 6 ∧ (f_X12_lawOf v0 (0 : Int32) v3 v2 (I b14 v1.toNatClampNeg) x13 Z I L (fun r21 Z17 I18 L19 => (∀ x23 : Int32, x23 = (v2 + (1 : Int32)) → (∃ m29 : Nat, f_X12_costOf_L29  Q m29 v0 v1 v2 v3 x13 r21 x23 Z17 I18 L19)))))))
set_option maxHeartbeats 4000000 in
set_option maxRecDepth 100000 in
theorem c_X12_costOf (l : Launch) (D : va_G) (cy : jC) (v0 : Nat) (v1 : Int32) (v2 : Int32) (v3 : Int32) (Z : jZ) (I : jI) (L : jL) (Q : Int32 → jZ → jI → jL → Prop) (hZ : SH Z) (kv0 : jk Z v0 12) (h : f_X12_costOf v0 v1 v2 v3 Z I L Q) : jCt l yX12_costOf w_X12_costOf { frames := 2, cells := 0, slots := 0, locals := 48 } D cy [.ref v0, .int v1, .int v2, .int v3] Z I L (xrtI Z Q) := by
  refine jCt_of (cc := cX12_costOf) (maxL := 7) (ret := (some .int)) (by decide +kernel) rfl (Nat.le_of_ble_eq_true rfl) ?_
  intro G eD eY eL E
  subst eD; subst eY; subst eL
  have E : jE G cX12_costOf RX12 w_X12_costOf 7 (some .int) { frames := 2, cells := 0, slots := 0, locals := 48 } (xrtI Z Q) := E
  have hx : jext Z Z := jext_rfl
  show jJ G 7 0 [(0, .ref v0), (1, .int v1), (2, .int v2), (3, .int v3)] [] Z I L 0 0
  refine j_iload_n E dX12_costOf_0 3 rfl ?_
  refine j_iload_n E dX12_costOf_1 2 rfl ?_
  refine j_isub E dX12_costOf_2 ?_
  refine j_iconst E (v := 1) dX12_costOf_3 (by decide) ?_
  refine j_isub E dX12_costOf_4 ?_
  refine j_topi (fun x13 ex13 => ?_)
  have h := h x13 ex13
  refine j_istore E 4 [(4, .int x13), (0, .ref v0), (1, .int v1), (2, .int v2), (3, .int v3)] dX12_costOf_5 (by decide) rfl ?_
  refine j_aload_n E dX12_costOf_7 1 rfl ?_
  refine j_iconst E (v := 0) dX12_costOf_8 (by decide) ?_
  refine j_iload_n E dX12_costOf_9 4 rfl ?_
  refine j_iload_n E dX12_costOf_10 3 rfl ?_
  refine j_aload_n E dX12_costOf_11 1 rfl ?_
  obtain ⟨b14, eb14, kb14, lb14⟩ := sh_f hZ kv0 (j := 12) (k := 14) (m := 6) rfl
  have h := h b14 eb14
  refine j_getr E 12 12 rfl rfl (by decide) (by decide) (iw iT_12) rfl rfl (tw W_765) kv0 eb14 dX12_costOf_12 ?_
  refine j_iload_n E dX12_costOf_15 2 rfl ?_
  obtain ⟨o15, h⟩ := h
  refine j_iald E kb14 (by rw [lb14]; exact o15) dX12_costOf_16 ?_
  refine j_iload E dX12_costOf_17 0 rfl ?_
  refine j_callV E [.int (0 : Int32), .int v3, .int v2, .int (I b14 v1.toNatClampNeg), .int x13] [] (c_X12_lawOf (gL G) (gD G) (gY G) v0 (0 : Int32) v3 v2 (I b14 v1.toNatClampNeg) x13 Z I L _ hZ kv0 h) (gwV W_772 W_773 W_774 W_679 W_771) rfl ⟨rfl, fy_X12_lawOf⟩ ⟨by decide, by decide⟩ (c := 12) rfl (by decide) kv0 rfl rfl (Nat.le_of_ble_eq_true rfl) ⟨Nat.zero_le _, Nat.zero_le _⟩ dX12_costOf_19 (fun v16 Z17 I18 L19 q20 => ?_)
  obtain ⟨yZ17, hZ17, r21, rfl, h⟩ := q20
  have hZ := hZ17
  have hx : jext Z Z17 := jext_trans hx yZ17
  have k22 := (yZ17 _ _ kv0).1
  show jJ G 7 22 [(4, .int x13), (0, .ref v0), (1, .int v1), (2, .int v2), (3, .int v3)] [.int r21] Z17 I18 L19 0 0
  refine j_istore E 5 [(5, .int r21), (4, .int x13), (0, .ref v0), (1, .int v1), (2, .int v2), (3, .int v3)] dX12_costOf_22 (by decide) rfl ?_
  refine j_iload_n E dX12_costOf_24 4 rfl ?_
  refine j_iconst E (v := 1) dX12_costOf_25 (by decide) ?_
  refine j_iadd E dX12_costOf_26 ?_
  refine j_topi (fun x23 ex23 => ?_)
  have h := h x23 ex23
  refine j_istore E 6 [(6, .int x23), (5, .int r21), (4, .int x13), (0, .ref v0), (1, .int v1), (2, .int v2), (3, .int v3)] dX12_costOf_27 (by decide) rfl ?_
  obtain ⟨n24, h⟩ := h
  refine j_sub [3, 4, 5, 6, 2, 1, 0] rfl ?_
  exact m_X12_costOf_L29 E  n24 v0 v1 v2 v3 x13 r21 x23 Z17 I18 L19 hZ hx k22 h
set_option maxRecDepth 100000 in
def f_X12_costs (v0 : Nat) (v1 : Int32) (v2 : Int32) (Z : jZ) (I : jI) (L : jL) (Q : Int32 → jZ → jI → jL → Prop) : Prop := (∀ I1 : jI, I1 = jpI I v0 22 (0 : Int32) → (f_X12_isOne v0 v1 Z I1 L (fun r7 I4 L5 => ((r7 = 0 → Q (-1 : Int32) Z I4 L5) ∧ (¬ (r7 = 0) → (f_X12_isStep v0 v2 Z I4 L5 (fun r14 I11 L12 => ((¬ r14 = 0 → (∀ b16 : Nat, jr Z v0 14 = some b16 → (vp_in v1 6 ∧ (f_X12_isMove v0 v1 (I11 b16 v1.toNatClampNeg) v2 Z I11 L12 (fun r23 I20 L21 => ((¬ r23 = 0 → (∀ I25 : jI, I25 = jpI I20 v0 21 (0 : Int32) → (∀ b26 : Nat, jr Z v0 14 = some b26 → (vp_in v1 6 ∧ (f_X12_effortOf v0 v1 (I25 b26 v1.toNatClampNeg) v2 Z I25 L21 (fun r33 I30 L31 => (f_X12_tell v0 (r33.toInt64) Z I30 L31 (fun I36 L37 => (∀ b39 : Nat, jr Z v0 14 = some b39 → (vp_in v1 6 ∧ (f_X12_tell v0 (((v2 - (I36 b39 v1.toNatClampNeg)) - (1 : Int32)).toInt64) Z I36 L37 (fun I43 L44 => (∀ b46 : Nat, jr Z v0 14 = some b46 → (vp_in v1 6 ∧ (f_X12_costOf v0 v1 (I43 b46 v1.toNatClampNeg) v2 Z I43 L44 (fun r53 Z49 I50 L51 => Q r53 Z49 I50 L51)))))))))))))))) ∧ (r23 = 0 → Q (-2 : Int32) Z I20 L21))))))) ∧ (r14 = 0 → Q (-1 : Int32) Z I11 L12)))))))))
set_option maxHeartbeats 4000000 in
set_option maxRecDepth 100000 in
theorem c_X12_costs (l : Launch) (D : va_G) (cy : jC) (v0 : Nat) (v1 : Int32) (v2 : Int32) (Z : jZ) (I : jI) (L : jL) (Q : Int32 → jZ → jI → jL → Prop) (hZ : SH Z) (kv0 : jk Z v0 12) (h : f_X12_costs v0 v1 v2 Z I L Q) : jCt l yX12_costs w_X12_costs { frames := 3, cells := 0, slots := 0, locals := 74 } D cy [.ref v0, .int v1, .int v2] Z I L (xrtI Z Q) := by
  refine jCt_of (cc := cX12_costs) (maxL := 3) (ret := (some .int)) (by decide +kernel) rfl (Nat.le_of_ble_eq_true rfl) ?_
  intro G eD eY eL E
  subst eD; subst eY; subst eL
  have E : jE G cX12_costs RX12 w_X12_costs 3 (some .int) { frames := 3, cells := 0, slots := 0, locals := 74 } (xrtI Z Q) := E
  have hx : jext Z Z := jext_rfl
  show jJ G 3 0 [(0, .ref v0), (1, .int v1), (2, .int v2)] [] Z I L 0 0
  refine j_aload_n E dX12_costs_0 0 rfl ?_
  refine j_iconst E (v := 0) dX12_costs_1 (by decide) ?_
  refine j_puti E 12 22 rfl rfl (by decide) (by decide) (iw iT_12) tyX12_ok nmX12 rfl rfl (tw W_674) rfl rfl rfl kv0 dX12_costs_2 ?_
  refine j_nmI (fun I1 eI1 => ?_)
  have h := h I1 eI1
  refine j_aload_n E dX12_costs_5 0 rfl ?_
  refine j_iload_n E dX12_costs_6 1 rfl ?_
  refine j_callV E [.int v1] [] (c_X12_isOne (gL G) (gD G) (gY G) v0 v1 Z I1 L _ hZ kv0 h) (gwV W_768 W_769 W_770 W_679 W_767) rfl ⟨rfl, fy_X12_isOne⟩ ⟨by decide, by decide⟩ (c := 12) rfl (by decide) kv0 rfl rfl (Nat.le_of_ble_eq_true rfl) ⟨Nat.zero_le _, Nat.zero_le _⟩ dX12_costs_7 (fun v2 Z3 I4 L5 q6 => ?_)
  obtain ⟨rfl, r7, rfl, zr7, h⟩ := q6
  show jJ G 3 10 [(0, .ref v0), (1, .int v1), (2, .int v2)] [.int r7] Z I4 L5 0 0
  refine j_if_eq E 21 dX12_costs_10 (by decide) (fun c8 => ?_) (fun c8 => ?_)
  · have h := h.1 c8
    refine j_iconst E (v := -1) dX12_costs_21 (by decide) ?_
    exact j_ireturn E ⟨hx, hZ, _, rfl, h⟩ (Nat.zero_le _) (Nat.zero_le _) dX12_costs_22
  · have h := h.2 c8
    refine j_aload_n E dX12_costs_13 0 rfl ?_
    refine j_iload_n E dX12_costs_14 2 rfl ?_
    refine j_callV E [.int v2] [] (c_X12_isStep (gL G) (gD G) (gY G) v0 v2 Z I4 L5 _ hZ kv0 h) (gwV W_752 W_753 W_754 W_679 W_751) rfl ⟨rfl, fy_X12_isStep⟩ ⟨by decide, by decide⟩ (c := 12) rfl (by decide) kv0 rfl rfl (Nat.le_of_ble_eq_true rfl) ⟨Nat.zero_le _, Nat.zero_le _⟩ dX12_costs_15 (fun v9 Z10 I11 L12 q13 => ?_)
    obtain ⟨rfl, r14, rfl, zr14, h⟩ := q13
    show jJ G 3 18 [(0, .ref v0), (1, .int v1), (2, .int v2)] [.int r14] Z I11 L12 0 0
    refine j_if_ne E 23 dX12_costs_18 (by decide) (fun c15 => ?_) (fun c15 => ?_)
    · have h := h.1 c15
      refine j_aload_n E dX12_costs_23 0 rfl ?_
      refine j_iload_n E dX12_costs_24 1 rfl ?_
      refine j_aload_n E dX12_costs_25 0 rfl ?_
      obtain ⟨b16, eb16, kb16, lb16⟩ := sh_f hZ kv0 (j := 14) (k := 14) (m := 6) rfl
      have h := h b16 eb16
      refine j_getr E 12 14 rfl rfl (by decide) (by decide) (iw iT_12) rfl rfl (tw W_716) kv0 eb16 dX12_costs_26 ?_
      refine j_iload_n E dX12_costs_29 1 rfl ?_
      obtain ⟨o17, h⟩ := h
      refine j_iald E kb16 (by rw [lb16]; exact o17) dX12_costs_30 ?_
      refine j_iload_n E dX12_costs_31 2 rfl ?_
      refine j_callV E [.int v1, .int (I11 b16 v1.toNatClampNeg), .int v2] [] (c_X12_isMove (gL G) (gD G) (gY G) v0 v1 (I11 b16 v1.toNatClampNeg) v2 Z I11 L12 _ hZ kv0 h) (gwV W_776 W_777 W_778 W_679 W_775) rfl ⟨rfl, fy_X12_isMove⟩ ⟨by decide, by decide⟩ (c := 12) rfl (by decide) kv0 rfl rfl (Nat.le_of_ble_eq_true rfl) ⟨Nat.zero_le _, Nat.zero_le _⟩ dX12_costs_32 (fun v18 Z19 I20 L21 q22 => ?_)
      obtain ⟨rfl, r23, rfl, zr23, h⟩ := q22
      show jJ G 3 35 [(0, .ref v0), (1, .int v1), (2, .int v2)] [.int r23] Z I20 L21 0 0
      refine j_if_ne E 41 dX12_costs_35 (by decide) (fun c24 => ?_) (fun c24 => ?_)
      · have h := h.1 c24
        refine j_aload_n E dX12_costs_41 0 rfl ?_
        refine j_iconst E (v := 0) dX12_costs_42 (by decide) ?_
        refine j_puti E 12 21 rfl rfl (by decide) (by decide) (iw iT_12) tyX12_ok nmX12 rfl rfl (tw W_676) rfl rfl rfl kv0 dX12_costs_43 ?_
        refine j_nmI (fun I25 eI25 => ?_)
        have h := h I25 eI25
        refine j_aload_n E dX12_costs_46 0 rfl ?_
        refine j_aload_n E dX12_costs_47 0 rfl ?_
        refine j_iload_n E dX12_costs_48 1 rfl ?_
        refine j_aload_n E dX12_costs_49 0 rfl ?_
        obtain ⟨b26, eb26, kb26, lb26⟩ := sh_f hZ kv0 (j := 14) (k := 14) (m := 6) rfl
        have h := h b26 eb26
        refine j_getr E 12 14 rfl rfl (by decide) (by decide) (iw iT_12) rfl rfl (tw W_716) kv0 eb26 dX12_costs_50 ?_
        refine j_iload_n E dX12_costs_53 1 rfl ?_
        obtain ⟨o27, h⟩ := h
        refine j_iald E kb26 (by rw [lb26]; exact o27) dX12_costs_54 ?_
        refine j_iload_n E dX12_costs_55 2 rfl ?_
        refine j_callV E [.int v1, .int (I25 b26 v1.toNatClampNeg), .int v2] [.ref v0] (c_X12_effortOf (gL G) (gD G) (gY G) v0 v1 (I25 b26 v1.toNatClampNeg) v2 Z I25 L21 _ hZ kv0 h) (gwV W_780 W_781 W_782 W_679 W_779) rfl ⟨rfl, fy_X12_effortOf⟩ ⟨by decide, by decide⟩ (c := 12) rfl (by decide) kv0 rfl rfl (Nat.le_of_ble_eq_true rfl) ⟨Nat.zero_le _, Nat.zero_le _⟩ dX12_costs_56 (fun v28 Z29 I30 L31 q32 => ?_)
        obtain ⟨rfl, r33, rfl, h⟩ := q32
        show jJ G 3 59 [(0, .ref v0), (1, .int v1), (2, .int v2)] [.int r33, .ref v0] Z I30 L31 0 0
        refine j_i2l E dX12_costs_59 ?_
        refine j_callV E [.long (r33.toInt64)] [] (c_X12_tell (gL G) (gD G) (gY G) v0 (r33.toInt64) Z I30 L31 _ hZ kv0 h) (gwV W_784 W_785 W_786 W_679 W_783) rfl ⟨rfl, fy_X12_tell⟩ ⟨by decide, by decide⟩ (c := 12) rfl (by decide) kv0 rfl rfl (Nat.le_of_ble_eq_true rfl) ⟨Nat.zero_le _, Nat.zero_le _⟩ dX12_costs_60 (fun v34 Z35 I36 L37 q38 => ?_)
        obtain ⟨rfl, rfl, h⟩ := q38
        show jJ G 3 63 [(0, .ref v0), (1, .int v1), (2, .int v2)] [] Z I36 L37 0 0
        refine j_aload_n E dX12_costs_63 0 rfl ?_
        refine j_iload_n E dX12_costs_64 2 rfl ?_
        refine j_aload_n E dX12_costs_65 0 rfl ?_
        obtain ⟨b39, eb39, kb39, lb39⟩ := sh_f hZ kv0 (j := 14) (k := 14) (m := 6) rfl
        have h := h b39 eb39
        refine j_getr E 12 14 rfl rfl (by decide) (by decide) (iw iT_12) rfl rfl (tw W_716) kv0 eb39 dX12_costs_66 ?_
        refine j_iload_n E dX12_costs_69 1 rfl ?_
        obtain ⟨o40, h⟩ := h
        refine j_iald E kb39 (by rw [lb39]; exact o40) dX12_costs_70 ?_
        refine j_isub E dX12_costs_71 ?_
        refine j_iconst E (v := 1) dX12_costs_72 (by decide) ?_
        refine j_isub E dX12_costs_73 ?_
        refine j_i2l E dX12_costs_74 ?_
        refine j_callV E [.long (((v2 - (I36 b39 v1.toNatClampNeg)) - (1 : Int32)).toInt64)] [] (c_X12_tell (gL G) (gD G) (gY G) v0 (((v2 - (I36 b39 v1.toNatClampNeg)) - (1 : Int32)).toInt64) Z I36 L37 _ hZ kv0 h) (gwV W_784 W_785 W_786 W_679 W_783) rfl ⟨rfl, fy_X12_tell⟩ ⟨by decide, by decide⟩ (c := 12) rfl (by decide) kv0 rfl rfl (Nat.le_of_ble_eq_true rfl) ⟨Nat.zero_le _, Nat.zero_le _⟩ dX12_costs_75 (fun v41 Z42 I43 L44 q45 => ?_)
        obtain ⟨rfl, rfl, h⟩ := q45
        show jJ G 3 78 [(0, .ref v0), (1, .int v1), (2, .int v2)] [] Z I43 L44 0 0
        refine j_aload_n E dX12_costs_78 0 rfl ?_
        refine j_iload_n E dX12_costs_79 1 rfl ?_
        refine j_aload_n E dX12_costs_80 0 rfl ?_
        obtain ⟨b46, eb46, kb46, lb46⟩ := sh_f hZ kv0 (j := 14) (k := 14) (m := 6) rfl
        have h := h b46 eb46
        refine j_getr E 12 14 rfl rfl (by decide) (by decide) (iw iT_12) rfl rfl (tw W_716) kv0 eb46 dX12_costs_81 ?_
        refine j_iload_n E dX12_costs_84 1 rfl ?_
        obtain ⟨o47, h⟩ := h
        refine j_iald E kb46 (by rw [lb46]; exact o47) dX12_costs_85 ?_
        refine j_iload_n E dX12_costs_86 2 rfl ?_
        refine j_callV E [.int v1, .int (I43 b46 v1.toNatClampNeg), .int v2] [] (c_X12_costOf (gL G) (gD G) (gY G) v0 v1 (I43 b46 v1.toNatClampNeg) v2 Z I43 L44 _ hZ kv0 h) (gwV W_788 W_789 W_790 W_679 W_787) rfl ⟨rfl, fy_X12_costOf⟩ ⟨by decide, by decide⟩ (c := 12) rfl (by decide) kv0 rfl rfl (Nat.le_of_ble_eq_true rfl) ⟨Nat.zero_le _, Nat.zero_le _⟩ dX12_costs_87 (fun v48 Z49 I50 L51 q52 => ?_)
        obtain ⟨yZ49, hZ49, r53, rfl, h⟩ := q52
        have hZ := hZ49
        have hx : jext Z Z49 := jext_trans hx yZ49
        have k54 := (yZ49 _ _ kv0).1
        show jJ G 3 90 [(0, .ref v0), (1, .int v1), (2, .int v2)] [.int r53] Z49 I50 L51 0 0
        exact j_ireturn E ⟨hx, hZ, _, rfl, h⟩ (Nat.zero_le _) (Nat.zero_le _) dX12_costs_90
      · have h := h.2 c24
        refine j_bipush E (v := -2) dX12_costs_38 (by decide) ?_
        exact j_ireturn E ⟨hx, hZ, _, rfl, h⟩ (Nat.zero_le _) (Nat.zero_le _) dX12_costs_40
    · have h := h.2 c15
      refine j_iconst E (v := -1) dX12_costs_21 (by decide) ?_
      exact j_ireturn E ⟨hx, hZ, _, rfl, h⟩ (Nat.zero_le _) (Nat.zero_le _) dX12_costs_22
set_option maxRecDepth 100000 in
def f_X12_divide_b176 (K136 : Nat → Int32 → jI → jL → Prop) (K147 : Nat → Int32 → Int32 → Int32 → jI → jL → Prop) (Z : jZ) (Q : jI → jL → Prop) (v0 : Nat) (v5 : Int32) (v6 : Int32) (v7 : Int32) (I : jI) (L : jL) : Prop := (∀ x1 : Int32, x1 = v7 + 1 → K147 v0 v5 v6 x1 I L)
set_option maxHeartbeats 4000000 in
set_option maxRecDepth 100000 in
theorem m_X12_divide_b176 {G : jG} {Z : jZ} {Q : jI → jL → Prop} (E : jE G cX12_divide RX12 w_X12_divide 10 none { frames := 0, cells := 0, slots := 0, locals := 0 } (rtV Z Q)) (hZ : SH Z) (K136 : Nat → Int32 → jI → jL → Prop) (hK136 : ∀ (v0 : Nat) (v5 : Int32) (I : jI) (L : jL), jk Z v0 12 → K136 v0 v5 I L → jJ G 10 136 [(0, .ref v0), (5, .int v5)] [] Z I L 0 0) (K147 : Nat → Int32 → Int32 → Int32 → jI → jL → Prop) (hK147 : ∀ (v0 : Nat) (v5 : Int32) (v6 : Int32) (v7 : Int32) (I : jI) (L : jL), jk Z v0 12 → K147 v0 v5 v6 v7 I L → jJ G 10 147 [(0, .ref v0), (5, .int v5), (6, .int v6), (7, .int v7)] [] Z I L 0 0) (v0 : Nat) (v5 : Int32) (v6 : Int32) (v7 : Int32) (I : jI) (L : jL) (kv0 : jk Z v0 12) (h : f_X12_divide_b176 K136 K147 Z Q v0 v5 v6 v7 I L) : jJ G 10 176 [(0, .ref v0), (5, .int v5), (6, .int v6), (7, .int v7)] [] Z I L 0 0 := by
  obtain ⟨x1, ex1⟩ : ∃ y : Int32, y = v7 + 1 := ⟨_, rfl⟩
  have h := h x1 ex1
  refine j_iinc E x1 [(7, .int x1), (0, .ref v0), (5, .int v5), (6, .int v6)] dX12_divide_176 3 rfl (by rw [ex1]; rfl) (by decide) rfl ?_
  refine j_goto E 147 dX12_divide_179 (by decide) ?_
  refine j_sub [1, 2, 3, 0] rfl ?_
  exact hK147 v0 v5 v6 x1 I L kv0 h
set_option maxRecDepth 100000 in
def f_X12_divide_L147 (K136 : Nat → Int32 → jI → jL → Prop) (Z : jZ) (Q : jI → jL → Prop) : Nat → Nat → Int32 → Int32 → Int32 → jI → jL → Prop
  | 0 => fun _ _ _ _ _ _ => False
  | n + 1 => fun v0 v5 v6 v7 I L => (((8 : Int32) ≤ v7 → (∀ b3 : Nat, jr Z v0 35 = some b3 → (vp_in v6 8 ∧ (vp_in v6 8 ∧ (∀ I6 : jI, I6 = jpI I b3 v6.toNatClampNeg ((I b3 v6.toNatClampNeg) + (1 : Int32)) → (∀ b7 : Nat, jr Z v0 36 = some b7 → (vp_in v6 8 ∧ (∀ L9 : jL, L9 = jpL L b7 v6.toNatClampNeg (-1 : Int64) → (∀ x10 : Int32, x10 = v5 + (-1) → K136 v0 x10 I6 L9))))))))) ∧ (¬ ((8 : Int32) ≤ v7) → (∀ b11 : Nat, jr Z v0 36 = some b11 → (vp_in v7 8 ∧ (∀ b13 : Nat, jr Z v0 36 = some b13 → (vp_in v6 8 ∧ (((lg_cmp (L b11 v7.toNatClampNeg) (L b13 v6.toNatClampNeg)) ≤ 0 → f_X12_divide_b176 K136 (f_X12_divide_L147 K136 Z Q n) Z Q v0 v5 v6 v7 I L) ∧ (¬ ((lg_cmp (L b11 v7.toNatClampNeg) (L b13 v6.toNatClampNeg)) ≤ 0) → f_X12_divide_b176 K136 (f_X12_divide_L147 K136 Z Q n) Z Q v0 v5 v7 v7 I L))))))))
set_option maxHeartbeats 4000000 in
set_option maxRecDepth 100000 in
theorem m_X12_divide_L147 {G : jG} {Z : jZ} {Q : jI → jL → Prop} (E : jE G cX12_divide RX12 w_X12_divide 10 none { frames := 0, cells := 0, slots := 0, locals := 0 } (rtV Z Q)) (hZ : SH Z) (K136 : Nat → Int32 → jI → jL → Prop) (hK136 : ∀ (v0 : Nat) (v5 : Int32) (I : jI) (L : jL), jk Z v0 12 → K136 v0 v5 I L → jJ G 10 136 [(0, .ref v0), (5, .int v5)] [] Z I L 0 0) : ∀ (n : Nat) (v0 : Nat) (v5 : Int32) (v6 : Int32) (v7 : Int32) (I : jI) (L : jL), jk Z v0 12 → f_X12_divide_L147 K136 Z Q n v0 v5 v6 v7 I L → jJ G 10 147 [(0, .ref v0), (5, .int v5), (6, .int v6), (7, .int v7)] [] Z I L 0 0 := by
  intro n
  induction n with
  | zero => intro v0 v5 v6 v7 I L _ h; exact h.elim
  | succ n ih =>
    intro v0 v5 v6 v7 I L kv0 h
    have h : (((8 : Int32) ≤ v7 → (∀ b3 : Nat, jr Z v0 35 = some b3 → (vp_in v6 8 ∧ (vp_in v6 8 ∧ (∀ I6 : jI, I6 = jpI I b3 v6.toNatClampNeg ((I b3 v6.toNatClampNeg) + (1 : Int32)) → (∀ b7 : Nat, jr Z v0 36 = some b7 → (vp_in v6 8 ∧ (∀ L9 : jL, L9 = jpL L b7 v6.toNatClampNeg (-1 : Int64) → (∀ x10 : Int32, x10 = v5 + (-1) → K136 v0 x10 I6 L9))))))))) ∧ (¬ ((8 : Int32) ≤ v7) → (∀ b11 : Nat, jr Z v0 36 = some b11 → (vp_in v7 8 ∧ (∀ b13 : Nat, jr Z v0 36 = some b13 → (vp_in v6 8 ∧ (((lg_cmp (L b11 v7.toNatClampNeg) (L b13 v6.toNatClampNeg)) ≤ 0 → f_X12_divide_b176 K136 (f_X12_divide_L147 K136 Z Q n) Z Q v0 v5 v6 v7 I L) ∧ (¬ ((lg_cmp (L b11 v7.toNatClampNeg) (L b13 v6.toNatClampNeg)) ≤ 0) → f_X12_divide_b176 K136 (f_X12_divide_L147 K136 Z Q n) Z Q v0 v5 v7 v7 I L)))))))) := h
    obtain ⟨K147, eK147⟩ : ∃ K : Nat → Int32 → Int32 → Int32 → jI → jL → Prop, K = f_X12_divide_L147 K136 Z Q n := ⟨_, rfl⟩
    have hK147 := ih
    clear eK147 K147
    generalize f_X12_divide_L147 K136 Z Q n = K147 at hK147 h
    refine j_iload E dX12_divide_147 3 rfl ?_
    refine j_bipush E (v := 8) dX12_divide_149 (by decide) ?_
    refine j_icmp_ge E 182 dX12_divide_151 (by decide) (fun c2 => ?_) (fun c2 => ?_)
    · have h := h.1 c2
      refine j_aload_n E dX12_divide_182 0 rfl ?_
      obtain ⟨b3, eb3, kb3, lb3⟩ := sh_f hZ kv0 (j := 35) (k := 14) (m := 8) rfl
      have h := h b3 eb3
      refine j_getr E 12 35 rfl rfl (by decide) (by decide) (iw iT_12) rfl rfl (tw W_791) kv0 eb3 dX12_divide_183 ?_
      refine j_iload E dX12_divide_186 2 rfl ?_
      refine j_dup2_11 E dX12_divide_188 rfl rfl ?_
      obtain ⟨o4, h⟩ := h
      refine j_iald E kb3 (by rw [lb3]; exact o4) dX12_divide_189 ?_
      refine j_iconst E (v := 1) dX12_divide_190 (by decide) ?_
      refine j_iadd E dX12_divide_191 ?_
      obtain ⟨o5, h⟩ := h
      refine j_iast E kb3 (by rw [lb3]; exact o5) dX12_divide_192 ?_
      refine j_nmI (fun I6 eI6 => ?_)
      have h := h I6 eI6
      refine j_aload_n E dX12_divide_193 0 rfl ?_
      obtain ⟨b7, eb7, kb7, lb7⟩ := sh_f hZ kv0 (j := 36) (k := 15) (m := 8) rfl
      have h := h b7 eb7
      refine j_getr E 12 36 rfl rfl (by decide) (by decide) (iw iT_12) rfl rfl (tw W_792) kv0 eb7 dX12_divide_194 ?_
      refine j_iload E dX12_divide_197 2 rfl ?_
      refine j_ldc2 E (tw W_793) dX12_divide_199 ?_
      obtain ⟨o8, h⟩ := h
      refine j_last E kb7 (by rw [lb7]; exact o8) dX12_divide_202 ?_
      refine j_nmL (fun L9 eL9 => ?_)
      have h := h L9 eL9
      obtain ⟨x10, ex10⟩ : ∃ y : Int32, y = v5 + (-1) := ⟨_, rfl⟩
      have h := h x10 ex10
      refine j_iinc E x10 [(5, .int x10), (0, .ref v0), (6, .int v6), (7, .int v7)] dX12_divide_203 1 rfl (by rw [ex10]; rfl) (by decide) rfl ?_
      refine j_goto E 136 dX12_divide_206 (by decide) ?_
      refine j_sub [1, 0] rfl ?_
      exact hK136 v0 x10 I6 L9 kv0 h
    · have h := h.2 c2
      refine j_aload_n E dX12_divide_154 0 rfl ?_
      obtain ⟨b11, eb11, kb11, lb11⟩ := sh_f hZ kv0 (j := 36) (k := 15) (m := 8) rfl
      have h := h b11 eb11
      refine j_getr E 12 36 rfl rfl (by decide) (by decide) (iw iT_12) rfl rfl (tw W_792) kv0 eb11 dX12_divide_155 ?_
      refine j_iload E dX12_divide_158 3 rfl ?_
      obtain ⟨o12, h⟩ := h
      refine j_lald E kb11 (by rw [lb11]; exact o12) dX12_divide_160 ?_
      refine j_aload_n E dX12_divide_161 0 rfl ?_
      obtain ⟨b13, eb13, kb13, lb13⟩ := sh_f hZ kv0 (j := 36) (k := 15) (m := 8) rfl
      have h := h b13 eb13
      refine j_getr E 12 36 rfl rfl (by decide) (by decide) (iw iT_12) rfl rfl (tw W_792) kv0 eb13 dX12_divide_162 ?_
      refine j_iload E dX12_divide_165 2 rfl ?_
      obtain ⟨o14, h⟩ := h
      refine j_lald E kb13 (by rw [lb13]; exact o14) dX12_divide_167 ?_
      refine j_lcmp E dX12_divide_168 ?_
      refine j_if_le E 176 dX12_divide_169 (by decide) (fun c15 => ?_) (fun c15 => ?_)
      · have h := h.1 c15
        refine j_sub [0, 1, 2, 3] rfl ?_
        exact m_X12_divide_b176 E hZ K136 hK136 K147 hK147 v0 v5 v6 v7 I L kv0 h
      · have h := h.2 c15
        refine j_iload E dX12_divide_172 3 rfl ?_
        refine j_istore E 6 [(6, .int v7), (0, .ref v0), (5, .int v5), (7, .int v7)] dX12_divide_174 (by decide) rfl ?_
        refine j_sub [1, 2, 0, 3] rfl ?_
        exact m_X12_divide_b176 E hZ K136 hK136 K147 hK147 v0 v5 v7 v7 I L kv0 h
set_option maxRecDepth 100000 in
def f_X12_divide_L136  (Z : jZ) (Q : jI → jL → Prop) : Nat → Nat → Int32 → jI → jL → Prop
  | 0 => fun _ _ _ _ => False
  | n + 1 => fun v0 v5 I L => ((v5 ≤ 0 → Q I L) ∧ (¬ (v5 ≤ 0) → (∃ m147 : Nat, f_X12_divide_L147 (f_X12_divide_L136 Z Q n) Z Q m147 v0 v5 (0 : Int32) (1 : Int32) I L)))
set_option maxHeartbeats 4000000 in
set_option maxRecDepth 100000 in
theorem m_X12_divide_L136 {G : jG} {Z : jZ} {Q : jI → jL → Prop} (E : jE G cX12_divide RX12 w_X12_divide 10 none { frames := 0, cells := 0, slots := 0, locals := 0 } (rtV Z Q)) (hZ : SH Z)  : ∀ (n : Nat) (v0 : Nat) (v5 : Int32) (I : jI) (L : jL), jk Z v0 12 → f_X12_divide_L136  Z Q n v0 v5 I L → jJ G 10 136 [(0, .ref v0), (5, .int v5)] [] Z I L 0 0 := by
  intro n
  induction n with
  | zero => intro v0 v5 I L _ h; exact h.elim
  | succ n ih =>
    intro v0 v5 I L kv0 h
    have h : ((v5 ≤ 0 → Q I L) ∧ (¬ (v5 ≤ 0) → (∃ m147 : Nat, f_X12_divide_L147 (f_X12_divide_L136 Z Q n) Z Q m147 v0 v5 (0 : Int32) (1 : Int32) I L))) := h
    obtain ⟨K136, eK136⟩ : ∃ K : Nat → Int32 → jI → jL → Prop, K = f_X12_divide_L136  Z Q n := ⟨_, rfl⟩
    have hK136 := ih
    clear eK136 K136
    generalize f_X12_divide_L136  Z Q n = K136 at hK136 h
    refine j_iload E dX12_divide_136 1 rfl ?_
    refine j_if_le E 209 dX12_divide_138 (by decide) (fun c16 => ?_) (fun c16 => ?_)
    · have h := h.1 c16
      exact j_return E ⟨rfl, rfl, h⟩ (Nat.zero_le _) (Nat.zero_le _) dX12_divide_209
    · have h := h.2 c16
      refine j_iconst E (v := 0) dX12_divide_141 (by decide) ?_
      refine j_istore E 6 [(6, .int (0 : Int32)), (0, .ref v0), (5, .int v5)] dX12_divide_142 (by decide) rfl ?_
      refine j_iconst E (v := 1) dX12_divide_144 (by decide) ?_
      refine j_istore E 7 [(7, .int (1 : Int32)), (6, .int (0 : Int32)), (0, .ref v0), (5, .int v5)] dX12_divide_145 (by decide) rfl ?_
      obtain ⟨n17, h⟩ := h
      refine j_sub [2, 3, 1, 0] rfl ?_
      exact m_X12_divide_L147 E hZ K136 hK136 n17 v0 v5 (0 : Int32) (1 : Int32) I L kv0 h
set_option maxRecDepth 100000 in
def f_X12_divide_b80 (K27 : Nat → Int32 → Int32 → Int64 → Int32 → Int32 → jI → jL → Prop) (K40 : Nat → Int32 → Int32 → Int64 → Int32 → Int32 → Int64 → Int32 → jI → jL → Prop) (Z : jZ) (Q : jI → jL → Prop) (v0 : Nat) (v1 : Int32) (v2 : Int32) (v3 : Int64) (v5 : Int32) (v6 : Int32) (v9 : Int32) (s0 : Int64) (s1 : Int64) (I : jI) (L : jL) : Prop := (∀ x18 : Int64, x18 = (s0 + s1) → (∀ x19 : Int32, x19 = v9 + 1 → K40 v0 v1 v2 v3 v5 v6 x18 x19 I L))
set_option maxHeartbeats 4000000 in
set_option maxRecDepth 100000 in
theorem m_X12_divide_b80 {G : jG} {Z : jZ} {Q : jI → jL → Prop} (E : jE G cX12_divide RX12 w_X12_divide 10 none { frames := 0, cells := 0, slots := 0, locals := 0 } (rtV Z Q)) (hZ : SH Z) (K27 : Nat → Int32 → Int32 → Int64 → Int32 → Int32 → jI → jL → Prop) (hK27 : ∀ (v0 : Nat) (v1 : Int32) (v2 : Int32) (v3 : Int64) (v5 : Int32) (v6 : Int32) (I : jI) (L : jL), jk Z v0 12 → K27 v0 v1 v2 v3 v5 v6 I L → jJ G 10 27 [(0, .ref v0), (1, .int v1), (2, .int v2), (3, .long v3), (5, .int v5), (6, .int v6)] [] Z I L 0 0) (K40 : Nat → Int32 → Int32 → Int64 → Int32 → Int32 → Int64 → Int32 → jI → jL → Prop) (hK40 : ∀ (v0 : Nat) (v1 : Int32) (v2 : Int32) (v3 : Int64) (v5 : Int32) (v6 : Int32) (v7 : Int64) (v9 : Int32) (I : jI) (L : jL), jk Z v0 12 → K40 v0 v1 v2 v3 v5 v6 v7 v9 I L → jJ G 10 40 [(0, .ref v0), (1, .int v1), (2, .int v2), (3, .long v3), (5, .int v5), (6, .int v6), (7, .long v7), (9, .int v9)] [] Z I L 0 0) (v0 : Nat) (v1 : Int32) (v2 : Int32) (v3 : Int64) (v5 : Int32) (v6 : Int32) (v9 : Int32) (s0 : Int64) (s1 : Int64) (I : jI) (L : jL) (kv0 : jk Z v0 12) (h : f_X12_divide_b80 K27 K40 Z Q v0 v1 v2 v3 v5 v6 v9 s0 s1 I L) : jJ G 10 80 [(0, .ref v0), (1, .int v1), (2, .int v2), (3, .long v3), (5, .int v5), (6, .int v6), (9, .int v9)] [.long s1, .long s0] Z I L 0 0 := by
  refine j_ladd E dX12_divide_80 ?_
  refine j_topl (fun x18 ex18 => ?_)
  have h := h x18 ex18
  refine j_lstore E 7 [(7, .long x18), (0, .ref v0), (1, .int v1), (2, .int v2), (3, .long v3), (5, .int v5), (6, .int v6), (9, .int v9)] dX12_divide_81 (by decide) rfl ?_
  obtain ⟨x19, ex19⟩ : ∃ y : Int32, y = v9 + 1 := ⟨_, rfl⟩
  have h := h x19 ex19
  refine j_iinc E x19 [(9, .int x19), (7, .long x18), (0, .ref v0), (1, .int v1), (2, .int v2), (3, .long v3), (5, .int v5), (6, .int v6)] dX12_divide_83 7 rfl (by rw [ex19]; rfl) (by decide) rfl ?_
  refine j_goto E 40 dX12_divide_86 (by decide) ?_
  refine j_sub [2, 3, 4, 5, 6, 7, 1, 0] rfl ?_
  exact hK40 v0 v1 v2 v3 v5 v6 x18 x19 I L kv0 h
set_option maxRecDepth 100000 in
def f_X12_divide_b62 (K27 : Nat → Int32 → Int32 → Int64 → Int32 → Int32 → jI → jL → Prop) (K40 : Nat → Int32 → Int32 → Int64 → Int32 → Int32 → Int64 → Int32 → jI → jL → Prop) (Z : jZ) (Q : jI → jL → Prop) (v0 : Nat) (v1 : Int32) (v2 : Int32) (v3 : Int64) (v5 : Int32) (v6 : Int32) (v9 : Int32) (s0 : Int64) (I : jI) (L : jL) : Prop := (∀ b20 : Nat, jr Z v0 5 = some b20 → (vp_in (((8 : Int32) * v9) + v6) 192 ∧ f_X12_divide_b80 K27 K40 Z Q v0 v1 v2 v3 v5 v6 v9 s0 ((I b20 (((8 : Int32) * v9) + v6).toNatClampNeg).toInt64) I L))
set_option maxHeartbeats 4000000 in
set_option maxRecDepth 100000 in
theorem m_X12_divide_b62 {G : jG} {Z : jZ} {Q : jI → jL → Prop} (E : jE G cX12_divide RX12 w_X12_divide 10 none { frames := 0, cells := 0, slots := 0, locals := 0 } (rtV Z Q)) (hZ : SH Z) (K27 : Nat → Int32 → Int32 → Int64 → Int32 → Int32 → jI → jL → Prop) (hK27 : ∀ (v0 : Nat) (v1 : Int32) (v2 : Int32) (v3 : Int64) (v5 : Int32) (v6 : Int32) (I : jI) (L : jL), jk Z v0 12 → K27 v0 v1 v2 v3 v5 v6 I L → jJ G 10 27 [(0, .ref v0), (1, .int v1), (2, .int v2), (3, .long v3), (5, .int v5), (6, .int v6)] [] Z I L 0 0) (K40 : Nat → Int32 → Int32 → Int64 → Int32 → Int32 → Int64 → Int32 → jI → jL → Prop) (hK40 : ∀ (v0 : Nat) (v1 : Int32) (v2 : Int32) (v3 : Int64) (v5 : Int32) (v6 : Int32) (v7 : Int64) (v9 : Int32) (I : jI) (L : jL), jk Z v0 12 → K40 v0 v1 v2 v3 v5 v6 v7 v9 I L → jJ G 10 40 [(0, .ref v0), (1, .int v1), (2, .int v2), (3, .long v3), (5, .int v5), (6, .int v6), (7, .long v7), (9, .int v9)] [] Z I L 0 0) (v0 : Nat) (v1 : Int32) (v2 : Int32) (v3 : Int64) (v5 : Int32) (v6 : Int32) (v9 : Int32) (s0 : Int64) (I : jI) (L : jL) (kv0 : jk Z v0 12) (h : f_X12_divide_b62 K27 K40 Z Q v0 v1 v2 v3 v5 v6 v9 s0 I L) : jJ G 10 62 [(0, .ref v0), (1, .int v1), (2, .int v2), (3, .long v3), (5, .int v5), (6, .int v6), (9, .int v9)] [.long s0] Z I L 0 0 := by
  refine j_aload_n E dX12_divide_62 0 rfl ?_
  obtain ⟨b20, eb20, kb20, lb20⟩ := sh_f hZ kv0 (j := 5) (k := 14) (m := 192) rfl
  have h := h b20 eb20
  refine j_getr E 12 5 rfl rfl (by decide) (by decide) (iw iT_12) rfl rfl (tw W_683) kv0 eb20 dX12_divide_63 ?_
  refine j_bipush E (v := 8) dX12_divide_66 (by decide) ?_
  refine j_iload E dX12_divide_68 6 rfl ?_
  refine j_imul E dX12_divide_70 ?_
  refine j_iload E dX12_divide_71 5 rfl ?_
  refine j_iadd E dX12_divide_73 ?_
  obtain ⟨o21, h⟩ := h
  refine j_iald E kb20 (by rw [lb20]; exact o21) dX12_divide_74 ?_
  refine j_i2l E dX12_divide_75 ?_
  refine j_goto E 80 dX12_divide_76 (by decide) ?_
  refine j_sub [0, 1, 2, 3, 4, 5, 6] rfl ?_
  exact m_X12_divide_b80 E hZ K27 hK27 K40 hK40 v0 v1 v2 v3 v5 v6 v9 s0 ((I b20 (((8 : Int32) * v9) + v6).toNatClampNeg).toInt64) I L kv0 h
set_option maxRecDepth 100000 in
def f_X12_divide_L40 (K27 : Nat → Int32 → Int32 → Int64 → Int32 → Int32 → jI → jL → Prop) (Z : jZ) (Q : jI → jL → Prop) : Nat → Nat → Int32 → Int32 → Int64 → Int32 → Int32 → Int64 → Int32 → jI → jL → Prop
  | 0 => fun _ _ _ _ _ _ _ _ _ _ => False
  | n + 1 => fun v0 v1 v2 v3 v5 v6 v7 v9 I L => (((I v0 0) ≤ v9 → (∀ b23 : Nat, jr Z v0 35 = some b23 → (¬ v3 = 0 ∧ (vp_in v6 8 ∧ (∀ I26 : jI, I26 = jpI I b23 v6.toNatClampNeg ((((v1.toInt64) * v7) / v3).toInt32) → (∀ b27 : Nat, jr Z v0 36 = some b27 → (¬ v3 = 0 ∧ (vp_in v6 8 ∧ (∀ L30 : jL, L30 = jpL L b27 v6.toNatClampNeg (((v1.toInt64) * v7) - ((v1.toInt64) * v7) / v3 * v3) → (∀ b31 : Nat, jr Z v0 35 = some b31 → (vp_in v6 8 ∧ (∀ x33 : Int32, x33 = (v5 - (I26 b31 v6.toNatClampNeg)) → (∀ x34 : Int32, x34 = v6 + 1 → K27 v0 v1 v2 v3 x33 x34 I26 L30))))))))))))) ∧ (¬ ((I v0 0) ≤ v9) → ((v2 = (-1 : Int32) → f_X12_divide_b62 K27 (f_X12_divide_L40 K27 Z Q n) Z Q v0 v1 v2 v3 v5 v6 v9 v7 I L) ∧ (¬ (v2 = (-1 : Int32)) → ((¬ v2 = v9 → f_X12_divide_b80 K27 (f_X12_divide_L40 K27 Z Q n) Z Q v0 v1 v2 v3 v5 v6 v9 v7 (0 : Int64) I L) ∧ (v2 = v9 → f_X12_divide_b62 K27 (f_X12_divide_L40 K27 Z Q n) Z Q v0 v1 v2 v3 v5 v6 v9 v7 I L))))))
set_option maxHeartbeats 4000000 in
set_option maxRecDepth 100000 in
theorem m_X12_divide_L40 {G : jG} {Z : jZ} {Q : jI → jL → Prop} (E : jE G cX12_divide RX12 w_X12_divide 10 none { frames := 0, cells := 0, slots := 0, locals := 0 } (rtV Z Q)) (hZ : SH Z) (K27 : Nat → Int32 → Int32 → Int64 → Int32 → Int32 → jI → jL → Prop) (hK27 : ∀ (v0 : Nat) (v1 : Int32) (v2 : Int32) (v3 : Int64) (v5 : Int32) (v6 : Int32) (I : jI) (L : jL), jk Z v0 12 → K27 v0 v1 v2 v3 v5 v6 I L → jJ G 10 27 [(0, .ref v0), (1, .int v1), (2, .int v2), (3, .long v3), (5, .int v5), (6, .int v6)] [] Z I L 0 0) : ∀ (n : Nat) (v0 : Nat) (v1 : Int32) (v2 : Int32) (v3 : Int64) (v5 : Int32) (v6 : Int32) (v7 : Int64) (v9 : Int32) (I : jI) (L : jL), jk Z v0 12 → f_X12_divide_L40 K27 Z Q n v0 v1 v2 v3 v5 v6 v7 v9 I L → jJ G 10 40 [(0, .ref v0), (1, .int v1), (2, .int v2), (3, .long v3), (5, .int v5), (6, .int v6), (7, .long v7), (9, .int v9)] [] Z I L 0 0 := by
  intro n
  induction n with
  | zero => intro v0 v1 v2 v3 v5 v6 v7 v9 I L _ h; exact h.elim
  | succ n ih =>
    intro v0 v1 v2 v3 v5 v6 v7 v9 I L kv0 h
    have h : (((I v0 0) ≤ v9 → (∀ b23 : Nat, jr Z v0 35 = some b23 → (¬ v3 = 0 ∧ (vp_in v6 8 ∧ (∀ I26 : jI, I26 = jpI I b23 v6.toNatClampNeg ((((v1.toInt64) * v7) / v3).toInt32) → (∀ b27 : Nat, jr Z v0 36 = some b27 → (¬ v3 = 0 ∧ (vp_in v6 8 ∧ (∀ L30 : jL, L30 = jpL L b27 v6.toNatClampNeg (((v1.toInt64) * v7) - ((v1.toInt64) * v7) / v3 * v3) → (∀ b31 : Nat, jr Z v0 35 = some b31 → (vp_in v6 8 ∧ (∀ x33 : Int32, x33 = (v5 - (I26 b31 v6.toNatClampNeg)) → (∀ x34 : Int32, x34 = v6 + 1 → K27 v0 v1 v2 v3 x33 x34 I26 L30))))))))))))) ∧ (¬ ((I v0 0) ≤ v9) → ((v2 = (-1 : Int32) → f_X12_divide_b62 K27 (f_X12_divide_L40 K27 Z Q n) Z Q v0 v1 v2 v3 v5 v6 v9 v7 I L) ∧ (¬ (v2 = (-1 : Int32)) → ((¬ v2 = v9 → f_X12_divide_b80 K27 (f_X12_divide_L40 K27 Z Q n) Z Q v0 v1 v2 v3 v5 v6 v9 v7 (0 : Int64) I L) ∧ (v2 = v9 → f_X12_divide_b62 K27 (f_X12_divide_L40 K27 Z Q n) Z Q v0 v1 v2 v3 v5 v6 v9 v7 I L)))))) := h
    obtain ⟨K40, eK40⟩ : ∃ K : Nat → Int32 → Int32 → Int64 → Int32 → Int32 → Int64 → Int32 → jI → jL → Prop, K = f_X12_divide_L40 K27 Z Q n := ⟨_, rfl⟩
    have hK40 := ih
    clear eK40 K40
    generalize f_X12_divide_L40 K27 Z Q n = K40 at hK40 h
    refine j_iload E dX12_divide_40 7 rfl ?_
    refine j_aload_n E dX12_divide_42 0 rfl ?_
    refine j_geti E 12 0 rfl rfl (by decide) (by decide) (iw iT_12) rfl rfl (tw W_677) kv0 dX12_divide_43 ?_
    refine j_icmp_ge E 89 dX12_divide_46 (by decide) (fun c22 => ?_) (fun c22 => ?_)
    · have h := h.1 c22
      refine j_aload_n E dX12_divide_89 0 rfl ?_
      obtain ⟨b23, eb23, kb23, lb23⟩ := sh_f hZ kv0 (j := 35) (k := 14) (m := 8) rfl
      have h := h b23 eb23
      refine j_getr E 12 35 rfl rfl (by decide) (by decide) (iw iT_12) rfl rfl (tw W_791) kv0 eb23 dX12_divide_90 ?_
      refine j_iload E dX12_divide_93 5 rfl ?_
      refine j_iload_n E dX12_divide_95 1 rfl ?_
      refine j_i2l E dX12_divide_96 ?_
      refine j_lload E dX12_divide_97 6 rfl ?_
      refine j_lmul E dX12_divide_99 ?_
      refine j_lload_n E dX12_divide_100 3 rfl ?_
      obtain ⟨o24, h⟩ := h
      refine j_ldiv E dX12_divide_101 o24 ?_
      refine j_l2i E dX12_divide_102 ?_
      obtain ⟨o25, h⟩ := h
      refine j_iast E kb23 (by rw [lb23]; exact o25) dX12_divide_103 ?_
      refine j_nmI (fun I26 eI26 => ?_)
      have h := h I26 eI26
      refine j_aload_n E dX12_divide_104 0 rfl ?_
      obtain ⟨b27, eb27, kb27, lb27⟩ := sh_f hZ kv0 (j := 36) (k := 15) (m := 8) rfl
      have h := h b27 eb27
      refine j_getr E 12 36 rfl rfl (by decide) (by decide) (iw iT_12) rfl rfl (tw W_792) kv0 eb27 dX12_divide_105 ?_
      refine j_iload E dX12_divide_108 5 rfl ?_
      refine j_iload_n E dX12_divide_110 1 rfl ?_
      refine j_i2l E dX12_divide_111 ?_
      refine j_lload E dX12_divide_112 6 rfl ?_
      refine j_lmul E dX12_divide_114 ?_
      refine j_lload_n E dX12_divide_115 3 rfl ?_
      obtain ⟨o28, h⟩ := h
      refine j_lrem E dX12_divide_116 o28 ?_
      obtain ⟨o29, h⟩ := h
      refine j_last E kb27 (by rw [lb27]; exact o29) dX12_divide_117 ?_
      refine j_nmL (fun L30 eL30 => ?_)
      have h := h L30 eL30
      refine j_iload E dX12_divide_118 4 rfl ?_
      refine j_aload_n E dX12_divide_120 0 rfl ?_
      obtain ⟨b31, eb31, kb31, lb31⟩ := sh_f hZ kv0 (j := 35) (k := 14) (m := 8) rfl
      have h := h b31 eb31
      refine j_getr E 12 35 rfl rfl (by decide) (by decide) (iw iT_12) rfl rfl (tw W_791) kv0 eb31 dX12_divide_121 ?_
      refine j_iload E dX12_divide_124 5 rfl ?_
      obtain ⟨o32, h⟩ := h
      refine j_iald E kb31 (by rw [lb31]; exact o32) dX12_divide_126 ?_
      refine j_isub E dX12_divide_127 ?_
      refine j_topi (fun x33 ex33 => ?_)
      have h := h x33 ex33
      refine j_istore E 5 [(5, .int x33), (0, .ref v0), (1, .int v1), (2, .int v2), (3, .long v3), (6, .int v6), (7, .long v7), (9, .int v9)] dX12_divide_128 (by decide) rfl ?_
      obtain ⟨x34, ex34⟩ : ∃ y : Int32, y = v6 + 1 := ⟨_, rfl⟩
      have h := h x34 ex34
      refine j_iinc E x34 [(6, .int x34), (5, .int x33), (0, .ref v0), (1, .int v1), (2, .int v2), (3, .long v3), (7, .long v7), (9, .int v9)] dX12_divide_130 5 rfl (by rw [ex34]; rfl) (by decide) rfl ?_
      refine j_goto E 27 dX12_divide_133 (by decide) ?_
      refine j_sub [2, 3, 4, 5, 1, 0] rfl ?_
      exact hK27 v0 v1 v2 v3 x33 x34 I26 L30 kv0 h
    · have h := h.2 c22
      refine j_lload E dX12_divide_49 6 rfl ?_
      refine j_iload_n E dX12_divide_51 2 rfl ?_
      refine j_iconst E (v := -1) dX12_divide_52 (by decide) ?_
      refine j_icmp_eq E 62 dX12_divide_53 (by decide) (fun c35 => ?_) (fun c35 => ?_)
      · have h := h.1 c35
        refine j_sub [0, 1, 2, 3, 4, 5, 7] rfl ?_
        exact m_X12_divide_b62 E hZ K27 hK27 K40 hK40 v0 v1 v2 v3 v5 v6 v9 v7 I L kv0 h
      · have h := h.2 c35
        refine j_iload_n E dX12_divide_56 2 rfl ?_
        refine j_iload E dX12_divide_57 7 rfl ?_
        refine j_icmp_ne E 79 dX12_divide_59 (by decide) (fun c36 => ?_) (fun c36 => ?_)
        · have h := h.1 c36
          refine j_lconst E (v := 0) dX12_divide_79 (by decide) ?_
          refine j_sub [0, 1, 2, 3, 4, 5, 7] rfl ?_
          exact m_X12_divide_b80 E hZ K27 hK27 K40 hK40 v0 v1 v2 v3 v5 v6 v9 v7 (0 : Int64) I L kv0 h
        · have h := h.2 c36
          refine j_sub [0, 1, 2, 3, 4, 5, 7] rfl ?_
          exact m_X12_divide_b62 E hZ K27 hK27 K40 hK40 v0 v1 v2 v3 v5 v6 v9 v7 I L kv0 h
set_option maxRecDepth 100000 in
def f_X12_divide_L27  (Z : jZ) (Q : jI → jL → Prop) : Nat → Nat → Int32 → Int32 → Int64 → Int32 → Int32 → jI → jL → Prop
  | 0 => fun _ _ _ _ _ _ _ _ => False
  | n + 1 => fun v0 v1 v2 v3 v5 v6 I L => (((8 : Int32) ≤ v6 → (∃ m136 : Nat, f_X12_divide_L136  Z Q m136 v0 v5 I L)) ∧ (¬ ((8 : Int32) ≤ v6) → (∃ m40 : Nat, f_X12_divide_L40 (f_X12_divide_L27 Z Q n) Z Q m40 v0 v1 v2 v3 v5 v6 (0 : Int64) (0 : Int32) I L)))
set_option maxHeartbeats 4000000 in
set_option maxRecDepth 100000 in
theorem m_X12_divide_L27 {G : jG} {Z : jZ} {Q : jI → jL → Prop} (E : jE G cX12_divide RX12 w_X12_divide 10 none { frames := 0, cells := 0, slots := 0, locals := 0 } (rtV Z Q)) (hZ : SH Z)  : ∀ (n : Nat) (v0 : Nat) (v1 : Int32) (v2 : Int32) (v3 : Int64) (v5 : Int32) (v6 : Int32) (I : jI) (L : jL), jk Z v0 12 → f_X12_divide_L27  Z Q n v0 v1 v2 v3 v5 v6 I L → jJ G 10 27 [(0, .ref v0), (1, .int v1), (2, .int v2), (3, .long v3), (5, .int v5), (6, .int v6)] [] Z I L 0 0 := by
  intro n
  induction n with
  | zero => intro v0 v1 v2 v3 v5 v6 I L _ h; exact h.elim
  | succ n ih =>
    intro v0 v1 v2 v3 v5 v6 I L kv0 h
    have h : (((8 : Int32) ≤ v6 → (∃ m136 : Nat, f_X12_divide_L136  Z Q m136 v0 v5 I L)) ∧ (¬ ((8 : Int32) ≤ v6) → (∃ m40 : Nat, f_X12_divide_L40 (f_X12_divide_L27 Z Q n) Z Q m40 v0 v1 v2 v3 v5 v6 (0 : Int64) (0 : Int32) I L))) := h
    obtain ⟨K27, eK27⟩ : ∃ K : Nat → Int32 → Int32 → Int64 → Int32 → Int32 → jI → jL → Prop, K = f_X12_divide_L27  Z Q n := ⟨_, rfl⟩
    have hK27 := ih
    clear eK27 K27
    generalize f_X12_divide_L27  Z Q n = K27 at hK27 h
    refine j_iload E dX12_divide_27 5 rfl ?_
    refine j_bipush E (v := 8) dX12_divide_29 (by decide) ?_
    refine j_icmp_ge E 136 dX12_divide_31 (by decide) (fun c37 => ?_) (fun c37 => ?_)
    · have h := h.1 c37
      obtain ⟨n38, h⟩ := h
      refine j_sub [0, 4] rfl ?_
      exact m_X12_divide_L136 E hZ  n38 v0 v5 I L kv0 h
    · have h := h.2 c37
      refine j_lconst E (v := 0) dX12_divide_34 (by decide) ?_
      refine j_lstore E 7 [(7, .long (0 : Int64)), (0, .ref v0), (1, .int v1), (2, .int v2), (3, .long v3), (5, .int v5), (6, .int v6)] dX12_divide_35 (by decide) rfl ?_
      refine j_iconst E (v := 0) dX12_divide_37 (by decide) ?_
      refine j_istore E 9 [(9, .int (0 : Int32)), (7, .long (0 : Int64)), (0, .ref v0), (1, .int v1), (2, .int v2), (3, .long v3), (5, .int v5), (6, .int v6)] dX12_divide_38 (by decide) rfl ?_
      obtain ⟨n39, h⟩ := h
      refine j_sub [2, 3, 4, 5, 6, 7, 1, 0] rfl ?_
      exact m_X12_divide_L40 E hZ K27 hK27 n39 v0 v1 v2 v3 v5 v6 (0 : Int64) (0 : Int32) I L kv0 h
set_option maxRecDepth 100000 in
def f_X12_divide_b20  (Z : jZ) (Q : jI → jL → Prop) (v0 : Nat) (v1 : Int32) (v2 : Int32) (s0 : Int64) (I : jI) (L : jL) : Prop := (∃ m27 : Nat, f_X12_divide_L27  Z Q m27 v0 v1 v2 s0 v1 (0 : Int32) I L)
set_option maxHeartbeats 4000000 in
set_option maxRecDepth 100000 in
theorem m_X12_divide_b20 {G : jG} {Z : jZ} {Q : jI → jL → Prop} (E : jE G cX12_divide RX12 w_X12_divide 10 none { frames := 0, cells := 0, slots := 0, locals := 0 } (rtV Z Q)) (hZ : SH Z)  (v0 : Nat) (v1 : Int32) (v2 : Int32) (s0 : Int64) (I : jI) (L : jL) (kv0 : jk Z v0 12) (h : f_X12_divide_b20  Z Q v0 v1 v2 s0 I L) : jJ G 10 20 [(0, .ref v0), (1, .int v1), (2, .int v2)] [.long s0] Z I L 0 0 := by
  refine j_lstore_n E 3 [(3, .long s0), (0, .ref v0), (1, .int v1), (2, .int v2)] dX12_divide_20 rfl (by decide) rfl ?_
  refine j_iload_n E dX12_divide_21 2 rfl ?_
  refine j_istore E 5 [(5, .int v1), (3, .long s0), (0, .ref v0), (1, .int v1), (2, .int v2)] dX12_divide_22 (by decide) rfl ?_
  refine j_iconst E (v := 0) dX12_divide_24 (by decide) ?_
  refine j_istore E 6 [(6, .int (0 : Int32)), (5, .int v1), (3, .long s0), (0, .ref v0), (1, .int v1), (2, .int v2)] dX12_divide_25 (by decide) rfl ?_
  obtain ⟨n40, h⟩ := h
  refine j_sub [3, 4, 5, 2, 1, 0] rfl ?_
  exact m_X12_divide_L27 E hZ  n40 v0 v1 v2 s0 v1 (0 : Int32) I L kv0 h
set_option maxRecDepth 100000 in
def f_X12_divide (v0 : Nat) (v1 : Int32) (v2 : Int32) (Z : jZ) (I : jI) (L : jL) (Q : jI → jL → Prop) : Prop := ((¬ v2 = (-1 : Int32) → f_X12_divide_b20  Z Q v0 v1 v2 (720 : Int64) I L) ∧ (v2 = (-1 : Int32) → f_X12_divide_b20  Z Q v0 v1 v2 ((720 : Int64) * ((I v0 0).toInt64)) I L))
set_option maxHeartbeats 4000000 in
set_option maxRecDepth 100000 in
theorem c_X12_divide (l : Launch) (D : va_G) (cy : jC) (v0 : Nat) (v1 : Int32) (v2 : Int32) (Z : jZ) (I : jI) (L : jL) (Q : jI → jL → Prop) (hZ : SH Z) (kv0 : jk Z v0 12) (h : f_X12_divide v0 v1 v2 Z I L Q) : jCt l yX12_divide w_X12_divide { frames := 0, cells := 0, slots := 0, locals := 0 } D cy [.ref v0, .int v1, .int v2] Z I L (rtV Z Q) := by
  refine jCt_of (cc := cX12_divide) (maxL := 10) (ret := none) (by decide +kernel) rfl (Nat.le_of_ble_eq_true rfl) ?_
  intro G eD eY eL E
  subst eD; subst eY; subst eL
  have E : jE G cX12_divide RX12 w_X12_divide 10 none { frames := 0, cells := 0, slots := 0, locals := 0 } (rtV Z Q) := E
  show jJ G 10 0 [(0, .ref v0), (1, .int v1), (2, .int v2)] [] Z I L 0 0
  refine j_iload_n E dX12_divide_0 2 rfl ?_
  refine j_iconst E (v := -1) dX12_divide_1 (by decide) ?_
  refine j_icmp_ne E 17 dX12_divide_2 (by decide) (fun c41 => ?_) (fun c41 => ?_)
  · have h := h.1 c41
    refine j_ldc2 E (tw W_794) dX12_divide_17 ?_
    refine j_sub [0, 1, 2] rfl ?_
    exact m_X12_divide_b20 E hZ  v0 v1 v2 (720 : Int64) I L kv0 h
  · have h := h.2 c41
    refine j_ldc2 E (tw W_794) dX12_divide_5 ?_
    refine j_aload_n E dX12_divide_8 0 rfl ?_
    refine j_geti E 12 0 rfl rfl (by decide) (by decide) (iw iT_12) rfl rfl (tw W_677) kv0 dX12_divide_9 ?_
    refine j_i2l E dX12_divide_12 ?_
    refine j_lmul E dX12_divide_13 ?_
    refine j_goto E 20 dX12_divide_14 (by decide) ?_
    refine j_sub [0, 1, 2] rfl ?_
    exact m_X12_divide_b20 E hZ  v0 v1 v2 ((720 : Int64) * ((I v0 0).toInt64)) I L kv0 h
set_option maxRecDepth 100000 in
def f_X12_earn_L9  (Z : jZ) (Q : jI → jL → Prop) : Nat → Nat → Int32 → Int32 → jI → jL → Prop
  | 0 => fun _ _ _ _ _ => False
  | n + 1 => fun v0 v3 v4 I L => (((8 : Int32) ≤ v4 → Q I L) ∧ (¬ ((8 : Int32) ≤ v4) → (∀ b2 : Nat, jr Z v0 17 = some b2 → (vp_in v4 8 ∧ (∀ b4 : Nat, jr Z v0 35 = some b4 → (vp_in v4 8 ∧ (vp_in v4 8 ∧ (∀ I7 : jI, I7 = jpI I b2 v4.toNatClampNeg ((I b2 v4.toNatClampNeg) + (v3 * (I b4 v4.toNatClampNeg))) → (∀ x8 : Int32, x8 = v4 + 1 → (f_X12_earn_L9 Z Q n) v0 v3 x8 I7 L)))))))))
set_option maxHeartbeats 4000000 in
set_option maxRecDepth 100000 in
theorem m_X12_earn_L9 {G : jG} {Z : jZ} {Q : jI → jL → Prop} (E : jE G cX12_earn RX12 w_X12_earn 5 none { frames := 1, cells := 0, slots := 0, locals := 29 } (rtV Z Q)) (hZ : SH Z)  : ∀ (n : Nat) (v0 : Nat) (v3 : Int32) (v4 : Int32) (I : jI) (L : jL), jk Z v0 12 → f_X12_earn_L9  Z Q n v0 v3 v4 I L → jJ G 5 9 [(0, .ref v0), (3, .int v3), (4, .int v4)] [] Z I L 0 0 := by
  intro n
  induction n with
  | zero => intro v0 v3 v4 I L _ h; exact h.elim
  | succ n ih =>
    intro v0 v3 v4 I L kv0 h
    have h : (((8 : Int32) ≤ v4 → Q I L) ∧ (¬ ((8 : Int32) ≤ v4) → (∀ b2 : Nat, jr Z v0 17 = some b2 → (vp_in v4 8 ∧ (∀ b4 : Nat, jr Z v0 35 = some b4 → (vp_in v4 8 ∧ (vp_in v4 8 ∧ (∀ I7 : jI, I7 = jpI I b2 v4.toNatClampNeg ((I b2 v4.toNatClampNeg) + (v3 * (I b4 v4.toNatClampNeg))) → (∀ x8 : Int32, x8 = v4 + 1 → (f_X12_earn_L9 Z Q n) v0 v3 x8 I7 L))))))))) := h
    obtain ⟨K9, eK9⟩ : ∃ K : Nat → Int32 → Int32 → jI → jL → Prop, K = f_X12_earn_L9  Z Q n := ⟨_, rfl⟩
    have hK9 := ih
    clear eK9 K9
    generalize f_X12_earn_L9  Z Q n = K9 at hK9 h
    refine j_iload E dX12_earn_9 2 rfl ?_
    refine j_bipush E (v := 8) dX12_earn_11 (by decide) ?_
    refine j_icmp_ge E 41 dX12_earn_13 (by decide) (fun c1 => ?_) (fun c1 => ?_)
    · have h := h.1 c1
      exact j_return E ⟨rfl, rfl, h⟩ (Nat.zero_le _) (Nat.zero_le _) dX12_earn_41
    · have h := h.2 c1
      refine j_aload_n E dX12_earn_16 0 rfl ?_
      obtain ⟨b2, eb2, kb2, lb2⟩ := sh_f hZ kv0 (j := 17) (k := 14) (m := 8) rfl
      have h := h b2 eb2
      refine j_getr E 12 17 rfl rfl (by decide) (by decide) (iw iT_12) rfl rfl (tw W_721) kv0 eb2 dX12_earn_17 ?_
      refine j_iload E dX12_earn_20 2 rfl ?_
      refine j_dup2_11 E dX12_earn_22 rfl rfl ?_
      obtain ⟨o3, h⟩ := h
      refine j_iald E kb2 (by rw [lb2]; exact o3) dX12_earn_23 ?_
      refine j_iload_n E dX12_earn_24 1 rfl ?_
      refine j_aload_n E dX12_earn_25 0 rfl ?_
      obtain ⟨b4, eb4, kb4, lb4⟩ := sh_f hZ kv0 (j := 35) (k := 14) (m := 8) rfl
      have h := h b4 eb4
      refine j_getr E 12 35 rfl rfl (by decide) (by decide) (iw iT_12) rfl rfl (tw W_791) kv0 eb4 dX12_earn_26 ?_
      refine j_iload E dX12_earn_29 2 rfl ?_
      obtain ⟨o5, h⟩ := h
      refine j_iald E kb4 (by rw [lb4]; exact o5) dX12_earn_31 ?_
      refine j_imul E dX12_earn_32 ?_
      refine j_iadd E dX12_earn_33 ?_
      obtain ⟨o6, h⟩ := h
      refine j_iast E kb2 (by rw [lb2]; exact o6) dX12_earn_34 ?_
      refine j_nmI (fun I7 eI7 => ?_)
      have h := h I7 eI7
      obtain ⟨x8, ex8⟩ : ∃ y : Int32, y = v4 + 1 := ⟨_, rfl⟩
      have h := h x8 ex8
      refine j_iinc E x8 [(4, .int x8), (0, .ref v0), (3, .int v3)] dX12_earn_35 2 rfl (by rw [ex8]; rfl) (by decide) rfl ?_
      refine j_goto E 9 dX12_earn_38 (by decide) ?_
      refine j_sub [1, 2, 0] rfl ?_
      exact hK9 v0 v3 x8 I7 L kv0 h
set_option maxRecDepth 100000 in
def f_X12_earn (v0 : Nat) (v1 : Int32) (v2 : Int32) (v3 : Int32) (Z : jZ) (I : jI) (L : jL) (Q : jI → jL → Prop) : Prop := (f_X12_divide v0 v2 v1 Z I L (fun I11 L12 => (∃ m9 : Nat, f_X12_earn_L9  Z Q m9 v0 v3 (0 : Int32) I11 L12)))
set_option maxHeartbeats 4000000 in
set_option maxRecDepth 100000 in
theorem c_X12_earn (l : Launch) (D : va_G) (cy : jC) (v0 : Nat) (v1 : Int32) (v2 : Int32) (v3 : Int32) (Z : jZ) (I : jI) (L : jL) (Q : jI → jL → Prop) (hZ : SH Z) (kv0 : jk Z v0 12) (h : f_X12_earn v0 v1 v2 v3 Z I L Q) : jCt l yX12_earn w_X12_earn { frames := 1, cells := 0, slots := 0, locals := 29 } D cy [.ref v0, .int v1, .int v2, .int v3] Z I L (rtV Z Q) := by
  refine jCt_of (cc := cX12_earn) (maxL := 5) (ret := none) (by decide +kernel) rfl (Nat.le_of_ble_eq_true rfl) ?_
  intro G eD eY eL E
  subst eD; subst eY; subst eL
  have E : jE G cX12_earn RX12 w_X12_earn 5 none { frames := 1, cells := 0, slots := 0, locals := 29 } (rtV Z Q) := E
  show jJ G 5 0 [(0, .ref v0), (1, .int v1), (2, .int v2), (3, .int v3)] [] Z I L 0 0
  refine j_aload_n E dX12_earn_0 0 rfl ?_
  refine j_iload_n E dX12_earn_1 2 rfl ?_
  refine j_iload_n E dX12_earn_2 1 rfl ?_
  refine j_callV E [.int v2, .int v1] [] (c_X12_divide (gL G) (gD G) (gY G) v0 v2 v1 Z I L _ hZ kv0 h) (gwV W_796 W_797 W_798 W_679 W_795) rfl ⟨rfl, fy_X12_divide⟩ ⟨by decide, by decide⟩ (c := 12) rfl (by decide) kv0 rfl rfl (Nat.le_of_ble_eq_true rfl) ⟨Nat.zero_le _, Nat.zero_le _⟩ dX12_earn_3 (fun v9 Z10 I11 L12 q13 => ?_)
  obtain ⟨rfl, rfl, h⟩ := q13
  show jJ G 5 6 [(0, .ref v0), (1, .int v1), (2, .int v2), (3, .int v3)] [] Z I11 L12 0 0
  refine j_iconst E (v := 0) dX12_earn_6 (by decide) ?_
  refine j_istore E 4 [(4, .int (0 : Int32)), (0, .ref v0), (1, .int v1), (2, .int v2), (3, .int v3)] dX12_earn_7 (by decide) rfl ?_
  obtain ⟨n14, h⟩ := h
  refine j_sub [1, 4, 0] rfl ?_
  exact m_X12_earn_L9 E hZ  n14 v0 v3 (0 : Int32) I11 L12 kv0 h
