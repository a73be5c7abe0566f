/-! ===== Rows ===== -/
def W7 : List (Nat × Nat) := [(7, 1), (7, 2), (7, 3), (7, 4), (7, 5), (7, 8), (7, 9)]
/-- the first of a place lies within what is filled -/
def FI (Z : jZ) (I : jI) (a p : Nat) : Prop := ∀ b1, jr Z a 1 = some b1 → 0 ≤ (I b1 p).toInt ∧ (I b1 p).toInt ≤ (I a 3).toInt
/-- all other Rows are filled as they were -/
def RO (a : Nat) (Z : jZ) (I I' : jI) : Prop := ∀ x, jk Z x 7 → x ≠ a → I' x 3 = I x 3
theorem RO.rf {a : Nat} {Z : jZ} {I : jI} : RO a Z I I := fun _ _ _ => rfl
theorem RO.trans {a : Nat} {Z Z' : jZ} {I I' I'' : jI} (hx : jext Z Z') (h : RO a Z I I') (h' : RO a Z' I' I'') : RO a Z I I'' := fun x hk hn => (h' x (hx x 7 hk).1 hn).trans (h x hk hn)
/-- what a Rows holds: its arrays, all apart -/
theorem rows_at {Z : jZ} {I : jI} {a : Nat} (w : WD Z I) (ha : jk Z a 7) : ∃ b0 b1 b2 b4 b5, jr Z a 0 = some b0 ∧ jr Z a 1 = some b1 ∧ jr Z a 2 = some b2 ∧ jr Z a 4 = some b4 ∧ jr Z a 5 = some b5
    ∧ jk Z b0 15 ∧ jk Z b1 14 ∧ jk Z b2 14 ∧ jk Z b4 14 ∧ jk Z b5 14 ∧ a ≠ b1 ∧ a ≠ b2 ∧ a ≠ b4 ∧ a ≠ b5 ∧ b1 ≠ b2 ∧ b1 ≠ b4 ∧ b1 ≠ b5 ∧ b2 ≠ b4 ∧ b2 ≠ b5 ∧ b4 ≠ b5 ∧ RI1 Z I a b0 b1 b2 b4 := by
  obtain ⟨b0, e0, k0⟩ := sh_o w.1 ha (j := 0) (k := 15) rfl
  obtain ⟨b1, e1, k1, -⟩ := sh_f w.1 ha (j := 1) (k := 14) (m := 25) rfl
  obtain ⟨b2, e2, k2, -⟩ := sh_f w.1 ha (j := 2) (k := 14) (m := 25) rfl
  obtain ⟨b4, e4, k4, -⟩ := sh_f w.1 ha (j := 4) (k := 14) (m := 3) rfl
  obtain ⟨b5, e5, k5, -⟩ := sh_f w.1 ha (j := 5) (k := 14) (m := 3) rfl
  have ne : ∀ b, jk Z b 14 → a ≠ b := fun b hb q => by
    subst q
    have := ha.2.symm.trans hb.2
    omega
  have un : ∀ i j b b', jr Z a i = some b → jr Z a j = some b' → i ≠ j → b ≠ b' := fun i j b b' h1 h2 hn q => by
    subst q
    exact hn (w.2.1.2.2 a 7 i a 7 j b ha ha h1 h2 (by simp [jsr]) (by simp [jsr])).2
  exact ⟨b0, b1, b2, b4, b5, e0, e1, e2, e4, e5, k0, k1, k2, k4, k5, ne _ k1, ne _ k2, ne _ k4, ne _ k5, un 1 2 _ _ e1 e2 (by decide), un 1 4 _ _ e1 e4 (by decide), un 1 5 _ _ e1 e5 (by decide), un 2 4 _ _ e2 e4 (by decide), un 2 5 _ _ e2 e5 (by decide), un 4 5 _ _ e4 e5 (by decide), w.2.2.2 a b0 b1 b2 b4 ha e0 e1 e2 e4⟩
/-- only the ints of one Rows are changed -/
theorem WD_rows {Z : jZ} {I I' : jI} {a b0 b1 b2 b4 b5 : Nat} (w : WD Z I) (ha : jk Z a 7) (e0 : jr Z a 0 = some b0) (e1 : jr Z a 1 = some b1) (e2 : jr Z a 2 = some b2) (e4 : jr Z a 4 = some b4) (e5 : jr Z a 5 = some b5)
    (hx : ∀ x, x ≠ a → x ≠ b1 → x ≠ b2 → x ≠ b4 → x ≠ b5 → I' x = I x) (hj : ∀ j, j ≠ 3 → j ≠ 8 → j ≠ 9 → I' a j = I a j) (h : RI1 Z I' a b0 b1 b2 b4) : WD Z I' ∧ FR W7 Z I Z I' ∧ RO a Z I I' := by
  obtain ⟨_, _, _, _, _, f0, f1, f2, f4, f5, k0, k1, k2, k4, k5, n1, n2, n4, n5, -⟩ := rows_at w ha
  cases e0.symm.trans f0; cases e1.symm.trans f1; cases e2.symm.trans f2; cases e4.symm.trans f4; cases e5.symm.trans f5
  have hf : ∀ x c, jk Z x c → c < 13 → x ≠ a → I' x = I x := fun x c hk hc hn => by
    have nk : ∀ b, jk Z b 14 → x ≠ b := fun b hb q => by
      subst q
      have := hk.2.symm.trans hb.2
      omega
    exact hx x hn (nk _ k1) (nk _ k2) (nk _ k4) (nk _ k5)
  have hr : ∀ x c j b, jk Z x c → jr Z x j = some b → jia (Z.2.1 b) = true → jsr c j = false → (c, j) ∉ W7 → I' b = I b := fun x c j b hk e k hs hn => by
    have hu : ∀ i b', jr Z a i = some b' → jsr 7 i = false → (7, i) ∈ W7 → b ≠ b' := fun i b' h1 h2 h3 q => by
      subst q
      obtain ⟨rfl, rfl⟩ := w.2.1.2.2 x c j a 7 i b hk ha e h1 hs h2
      cases hk.2.symm.trans ha.2
      exact hn h3
    have hna : b ≠ a := fun q => by
      subst q
      have := jia_13 k
      have := ha.2
      omega
    exact hx b hna (hu 1 _ e1 rfl (by decide)) (hu 2 _ e2 rfl (by decide)) (hu 4 _ e4 rfl (by decide)) (hu 5 _ e5 rfl (by decide))
  have hR : ∀ x c j b, jk Z x c → jr Z x j = some b → jia (Z.2.1 b) = true → jsr c j = false → x ≠ a → I' b = I b := fun x c j b hk e k hs hn => by
    have hu : ∀ i b', jr Z a i = some b' → jsr 7 i = false → b ≠ b' := fun i b' h1 h2 q => by
      subst q
      exact hn (w.2.1.2.2 x c j a 7 i b hk ha e h1 hs h2).1
    have hna : b ≠ a := fun q => by
      subst q
      have := jia_13 k
      have := ha.2
      omega
    exact hx b hna (hu 1 _ e1 rfl) (hu 2 _ e2 rfl) (hu 4 _ e4 rfl) (hu 5 _ e5 rfl)
  have hF : FR W7 Z I Z I' := by
    refine ⟨jext_rfl, fun _ _ _ _ _ _ => rfl, fun x c j hk hc hn => ?_, fun x c j b hk e k hs hn => hr x c j b hk e k hs hn⟩
    by_cases q : x = a
    · subst q
      cases hk.2.symm.trans ha.2
      refine hj j ?_ ?_ ?_
      · intro e; subst e; exact hn (by decide)
      · intro e; subst e; exact hn (by decide)
      · intro e; subst e; exact hn (by decide)
    · rw [hf x c hk hc q]
  refine ⟨⟨w.1, w.2.1, ⟨fun x c j hk hc => ?_, fun x c j b hk e k hs i => ?_⟩, ?_⟩, hF, fun x hk hn => by rw [hf x 7 hk (by decide) hn]⟩
  · by_cases q : x = a
    · subst q
      cases hk.2.symm.trans ha.2
      trivial
    · rw [hf x c hk hc q]
      exact w.2.2.1.1 x c j hk hc
  · by_cases q : x = a
    · subst q
      cases hk.2.symm.trans ha.2
      trivial
    · rw [hR x c j b hk e k hs q]
      exact w.2.2.1.2 x c j b hk e k hs i
  · intro x c0 c1 c2 c4 hk g0 g1 g2 g4
    by_cases q : x = a
    · subst q
      cases e0.symm.trans g0; cases e1.symm.trans g1; cases e2.symm.trans g2; cases e4.symm.trans g4
      exact h
    · have old := w.2.2.2 x c0 c1 c2 c4 hk g0 g1 g2 g4
      obtain ⟨_, _, _, _, _, f0', f1', f2', f4', f5', k0', k1', k2', k4', k5', -⟩ := rows_at w hk
      cases g0.symm.trans f0'; cases g1.symm.trans f1'; cases g2.symm.trans f2'; cases g4.symm.trans f4'
      unfold RI1 at old ⊢
      rw [hf x 7 hk (by decide) q, hR x 7 1 c1 hk g1 (by rw [k1'.2]; rfl) rfl q, hR x 7 2 c2 hk g2 (by rw [k2'.2]; rfl) rfl q, hR x 7 4 c4 hk g4 (by rw [k4'.2]; rfl) rfl q]
      exact old
theorem i_clamp {x : Int32} {n : Nat} (h0 : 0 ≤ x.toInt) (h1 : x.toInt < (n : Int)) : x.toNatClampNeg < n := by
  have := i_nat (x := x) rfl h0
  omega
theorem s_X7_start {Z : jZ} {I : jI} {L : jL} (w_I : WD Z I) (v0 : Nat) (v1 : Int32) (kv0 : jk Z v0 7) (p0 : 0 ≤ v1.toInt ∧ v1.toInt ≤ 24) {Q : jI → jL → Prop}
    (hQ : ∀ (I' : jI) (L' : jL), WD Z I' → FR W7 Z I Z I' → ((I' v0 3).toInt = (I v0 3).toInt ∧ FI Z I' v0 v1.toNatClampNeg ∧ RO v0 Z I I') → Q I' L') : f_X7_start v0 v1 Z I L Q := by
  obtain ⟨b0, b1, b2, b4, b5, e0, e1, e2, e4, e5, k0, k1, k2, k4, k5, n1, n2, n4, n5, n12, n14, n15, n24, n25, n45, r1, r2, r3, r4, r5, r6⟩ := rows_at w_I kv0
  have hp : v1.toNatClampNeg < 25 := i_clamp p0.1 (by omega)
  have hi : vp_in v1 25 := vi_of rfl (by omega) (by omega)
  unfold f_X7_start
  have z0 : (0 : Int32).toInt = 0 := rfl
  have end_ : ∀ I5 : jI, I5 = jpI (jpI I b1 v1.toNatClampNeg (I v0 3)) b2 v1.toNatClampNeg (0 : Int32) → f_X7_start_b27 Z Q v0 I5 L := by
    intro I5 e
    unfold f_X7_start_b27
    intro I6 e6 I7 e7
    have a3 : I7 v0 3 = I v0 3 := by rw [e7, jpI_off (by decide), e6, jpI_off (by decide), e, jpI_ne n2, jpI_ne n1]
    have a8 : I7 v0 8 = 0 := by rw [e7, jpI_off (by decide), e6, jpI_at]
    have a9 : I7 v0 9 = 0 := by rw [e7, jpI_at]
    have c2 : ∀ p, I7 b2 p = if p = v1.toNatClampNeg then 0 else I b2 p := fun p => by
      rw [e7, jpI_ne n2.symm, e6, jpI_ne n2.symm, e]
      by_cases q : p = v1.toNatClampNeg
      · rw [if_pos q, q, jpI_at]
      · rw [if_neg q, jpI_off q, jpI_ne n12.symm]
    have c1 : ∀ p, I7 b1 p = if p = v1.toNatClampNeg then I v0 3 else I b1 p := fun p => by
      rw [e7, jpI_ne n1.symm, e6, jpI_ne n1.symm, e, jpI_ne n12]
      by_cases q : p = v1.toNatClampNeg
      · rw [if_pos q, q, jpI_at]
      · rw [if_neg q, jpI_off q]
    obtain ⟨g1, g2, g3⟩ := WD_rows (I' := I7) w_I kv0 e0 e1 e2 e4 e5 (fun x x0 x1 x2 x4 x5 => by rw [e7, jpI_ne x0, e6, jpI_ne x0, e, jpI_ne x2, jpI_ne x1]) (fun j j3 j8 j9 => by rw [e7, jpI_off j9, e6, jpI_off j8, e, jpI_ne n2, jpI_ne n1]) (by
      unfold RI1
      rw [a3, a8, a9, z0]
      refine ⟨r1, r2, r3, fun p hp => ?_, by omega, fun p hp => by omega⟩
      rw [c1, c2]
      by_cases q : p = v1.toNatClampNeg
      · rw [if_pos q, if_pos q, z0]; omega
      · rw [if_neg q, if_neg q]; exact r4 p hp)
    refine hQ I7 L g1 g2 ⟨by rw [a3], fun b hb => ?_, g3⟩
    cases e1.symm.trans hb
    rw [c1, if_pos rfl, a3]
    omega
  refine ⟨fun c => absurd ((i_lt rfl z0).mp c) (by omega), fun _ => ⟨fun c => absurd ((i_le (show (25 : Int32).toInt = 25 from rfl) rfl).mp c) (by omega), fun _ => ?_⟩⟩
  intro b h
  cases e1.symm.trans h
  refine ⟨hi, fun I1 q1 b h => ?_⟩
  cases e2.symm.trans h
  refine ⟨hi, fun I2 q2 => end_ I2 ?_⟩
  rw [q2, q1]
theorem s_X7_sizeAt {Z : jZ} {I : jI} {L : jL} (w_I : WD Z I) (v0 : Nat) (v1 : Int32) (kv0 : jk Z v0 7) {Q : Int32 → jI → jL → Prop}
    (hQ : ∀ (r : Int32), (0 ≤ r.toInt ∧ r.toInt ≤ (I v0 3).toInt ∧ (0 < r.toInt → 0 ≤ v1.toInt ∧ v1.toInt ≤ 24 ∧ ∀ b1, jr Z v0 1 = some b1 → 0 ≤ (I b1 v1.toNatClampNeg).toInt ∧ (I b1 v1.toNatClampNeg).toInt + r.toInt ≤ (I v0 3).toInt)) → Q r I L) : f_X7_sizeAt v0 v1 Z I L Q := by
  obtain ⟨b0, b1, b2, b4, b5, e0, e1, e2, e4, e5, k0, k1, k2, k4, k5, n1, n2, n4, n5, n12, n14, n15, n24, n25, n45, r1, r2, r3, r4, r5, r6⟩ := rows_at w_I kv0
  have z0 : (0 : Int32).toInt = 0 := rfl
  have rv := i_rng v1
  unfold f_X7_sizeAt
  have no : Q 0 I L := hQ 0 (by rw [z0]; omega)
  refine ⟨fun _ => no, fun c => ⟨fun _ => no, fun c2 => ?_⟩⟩
  have h0 := (not_congr (i_lt rfl z0)).mp c
  have h1 := (not_congr (i_le (show (25 : Int32).toInt = 25 from rfl) rfl)).mp c2
  intro b h
  cases e2.symm.trans h
  have hp : v1.toNatClampNeg < 25 := i_clamp (by omega) (by omega)
  have := r4 _ hp
  refine ⟨vi_of rfl (by omega) (by omega), hQ _ ⟨this.1, ?_, fun g => ⟨by omega, by omega, fun b hb => ?_⟩⟩⟩
  · by_cases q : 0 < (I b2 v1.toNatClampNeg).toInt
    · have := this.2 q; omega
    · omega
  · cases e1.symm.trans hb
    exact this.2 g
theorem s_X7_keyAt {Z : jZ} {I : jI} {L : jL} (w_I : WD Z I) (v0 : Nat) (v1 v2 : Int32) (kv0 : jk Z v0 7) {Q : Int64 → jI → jL → Prop} (hQ : ∀ (r : Int64), Q r I L) : f_X7_keyAt v0 v1 v2 Z I L Q := by
  obtain ⟨b0, b1, b2, b4, b5, e0, e1, e2, e4, e5, k0, k1, k2, k4, k5, n1, n2, n4, n5, n12, n14, n15, n24, n25, n45, r1, r2, r3, r4, r5, r6⟩ := rows_at w_I kv0
  have z0 : (0 : Int32).toInt = 0 := rfl
  have no : f_X7_keyAt_b29 Z Q I L := by unfold f_X7_keyAt_b29; exact hQ _
  unfold f_X7_keyAt
  refine ⟨fun _ => no, fun c => s_X7_sizeAt w_I v0 v1 kv0 (fun r pr => ⟨fun _ => no, fun c2 => ?_⟩)⟩
  have h0 := (not_congr (i_lt rfl z0)).mp c
  have h1 := (not_congr (i_le rfl rfl)).mp c2
  intro b h
  cases e0.symm.trans h
  intro b h
  cases e1.symm.trans h
  have g := pr.2.2 (by omega)
  have g1 := g.2.2 b1 e1
  have t := i_add (x := I b1 v1.toNatClampNeg) (y := v2) rfl rfl (by omega) (by omega)
  exact ⟨vi_of rfl (by omega) (by omega), vi_of t (by omega) (by omega), hQ _⟩
theorem s_X7_merge {Z : jZ} {I : jI} {L : jL} (w_I : WD Z I) (v0 : Nat) (v1 : Int32) (v2 : Int64) (kv0 : jk Z v0 7) {Q : jI → jL → Prop}
    (hQ : ∀ (I' : jI) (L' : jL), WD Z I' → FR W7 Z I Z I' → ((I' v0 3).toInt = (I v0 3).toInt ∧ (∀ p, FI Z I v0 p → FI Z I' v0 p) ∧ RO v0 Z I I') → Q I' L') : f_X7_merge v0 v1 v2 Z I L Q := by
  obtain ⟨b0, b1, b2, b4, b5, e0, e1, e2, e4, e5, k0, k1, k2, k4, k5, n1, n2, n4, n5, n12, n14, n15, n24, n25, n45, r1, r2, r3, r4, r5, r6⟩ := rows_at w_I kv0
  have z0 : (0 : Int32).toInt = 0 := rfl
  have z1 : (1 : Int32).toInt = 1 := rfl
  have no : Q I L := hQ I L w_I FR.rf ⟨rfl, fun _ h => h, fun _ _ _ => rfl⟩
  unfold f_X7_merge
  refine s_X7_sizeAt w_I v0 v1 kv0 (fun r pr => ⟨fun _ => no, fun c => ⟨fun _ => no, fun c2 => ?_⟩⟩)
  have h0 := (not_congr (i_le rfl z0)).mp c
  have h1 := (not_congr (i_le (show (3 : Int32).toInt = 3 from rfl) rfl)).mp c2
  have g := pr.2.2 (by omega)
  have g1 := g.2.2 b1 e1
  have vi1 : vp_in v1 25 := vi_of rfl (by omega) (by omega)
  have hm := i_nat (x := I v0 8) rfl (by omega)
  intro b h; cases e4.symm.trans h
  intro b h; cases e1.symm.trans h
  refine ⟨vi1, vi_of rfl (by omega) (by omega), fun I1 q1 => ?_⟩
  have a8 : I1 v0 8 = I v0 8 := by rw [q1, jpI_ne n4]
  intro b h; cases e5.symm.trans h
  intro b h; cases e1.symm.trans h
  refine ⟨vi1, vi_of (by rw [a8]) (by omega) (by omega), fun I2 q2 => ?_⟩
  have a8 : I2 v0 8 = I v0 8 := by rw [q2, jpI_ne n5, a8]
  obtain ⟨b6, e6, k6, l6⟩ := sh_f w_I.1 kv0 (j := 6) (k := 15) (m := 3) rfl
  obtain ⟨b7, e7, k7, l7⟩ := sh_f w_I.1 kv0 (j := 7) (k := 15) (m := 3) rfl
  intro b h; cases e6.symm.trans h
  refine ⟨vi_of (by rw [a8]) (by omega) (by omega), fun L3 q3 => ?_⟩
  intro b h; cases e7.symm.trans h
  intro b h; cases e0.symm.trans h
  intro b h; cases e1.symm.trans h
  have f1 : I2 b1 v1.toNatClampNeg = I b1 v1.toNatClampNeg := by rw [q2, jpI_ne n15, q1, jpI_ne n14]
  refine ⟨vi1, vi_of (by rw [f1]) (by omega) (by omega), vi_of (by rw [a8]) (by omega) (by omega), fun L4 q4 I5 q5 I6 q6 => ?_⟩
  have a3 : I6 v0 3 = I v0 3 := by rw [q6, jpI_off (by decide), q5, jpI_off (by decide), q2, jpI_ne n5, q1, jpI_ne n4]
  have t8 : (I6 v0 8).toInt = (I v0 8).toInt + 1 := by
    rw [q6, jpI_off (by decide), q5, jpI_at, a8]
    exact i_add rfl z1 (by omega) (by omega)
  have t9 : (I6 v0 9).toInt = (I v0 9).toInt + r.toInt := by
    rw [q6, jpI_at, q5, jpI_off (by decide), q2, jpI_ne n5, q1, jpI_ne n4]
    exact i_add rfl rfl (by omega) (by omega)
  have c1 : I6 b1 = I b1 := by rw [q6, jpI_ne n1.symm, q5, jpI_ne n1.symm, q2, jpI_ne n15, q1, jpI_ne n14]
  have c2 : I6 b2 = I b2 := by rw [q6, jpI_ne n2.symm, q5, jpI_ne n2.symm, q2, jpI_ne n25, q1, jpI_ne n24]
  have c4 : ∀ p, I6 b4 p = if p = (I v0 8).toNatClampNeg then I b1 v1.toNatClampNeg else I b4 p := fun p => by
    rw [q6, jpI_ne n4.symm, q5, jpI_ne n4.symm, q2, jpI_ne n45, q1]
    by_cases q : p = (I v0 8).toNatClampNeg
    · rw [if_pos q, q, jpI_at]
    · rw [if_neg q, jpI_off q]
  obtain ⟨g1', g2', g3'⟩ := WD_rows (I' := I6) w_I kv0 e0 e1 e2 e4 e5 (fun x x0 x1 x2 x4 x5 => by rw [q6, jpI_ne x0, q5, jpI_ne x0, q2, jpI_ne x5, q1, jpI_ne x4]) (fun j j3 j8 j9 => by rw [q6, jpI_off j9, q5, jpI_off j8, q2, jpI_ne n5, q1, jpI_ne n4]) (by
    unfold RI1
    rw [a3, t8, t9, c1, c2]
    refine ⟨r1, r2, r3, r4, by omega, fun p hp => ?_⟩
    rw [c4]
    by_cases q : p = (I v0 8).toNatClampNeg
    · rw [if_pos q]; omega
    · rw [if_neg q]
      have := r6 p (by omega)
      omega)
  exact hQ I6 L4 g1' g2' ⟨by rw [a3], fun p hp b hb => by rw [a3]; cases e1.symm.trans hb; rw [c1]; exact hp b1 e1, g3'⟩
set_option maxHeartbeats 1000000 in
theorem l_X7_take {Z : jZ} {I : jI} {L : jL} (w_I : WD Z I) (v0 : Nat) (kv0 : jk Z v0 7) {Q : Int64 → jI → jL → Prop}
    (hQ : ∀ (r : Int64) (I' : jI) (L' : jL), WD Z I' → FR W7 Z I Z I' → ((I' v0 3).toInt = (I v0 3).toInt ∧ (∀ p, FI Z I v0 p → FI Z I' v0 p) ∧ RO v0 Z I I') → Q r I' L') :
    ∀ (n : Nat) (v1 v2 : Int32), (0 ≤ v1.toInt ∧ v1.toInt ≤ 2 ∧ 1 ≤ v2.toInt ∧ v2.toInt ≤ 3 ∧ (v1.toInt < (I v0 8).toInt ∨ v1.toInt = 0)) → 3 - v2.toInt < (n : Int) → f_X7_take_L4 Z Q n v0 v1 v2 I L := by
  obtain ⟨b0, b1, b2, b4, b5, e0, e1, e2, e4, e5, k0, k1, k2, k4, k5, n1, n2, n4, n5, n12, n14, n15, n24, n25, n45, r1, r2, r3, r4, r5, r6⟩ := rows_at w_I kv0
  have z0 : (0 : Int32).toInt = 0 := rfl
  have z1 : (1 : Int32).toInt = 1 := rfl
  obtain ⟨b6, e6, k6, l6⟩ := sh_f w_I.1 kv0 (j := 6) (k := 15) (m := 3) rfl
  obtain ⟨b7, e7, k7, l7⟩ := sh_f w_I.1 kv0 (j := 7) (k := 15) (m := 3) rfl
  intro n
  induction n with
  | zero => intro v1 v2 li me; exfalso; omega
  | succ n ih =>
    intro v1 v2 li me
    unfold f_X7_take_L4
    refine ⟨fun c => ⟨fun c2 => ?_, fun c2 => hQ _ I L w_I FR.rf ⟨rfl, fun _ h => h, fun _ _ _ => rfl⟩⟩, fun c => ?_⟩
    · have hw := (not_congr (i_eq rfl z0)).mp c2
      have vi : vp_in v1 3 := vi_of rfl (by omega) (by omega)
      have hv := i_nat (x := v1) rfl (by omega)
      intro b h; cases e7.symm.trans h
      refine ⟨vi, fun x9 ex9 => ?_⟩
      intro b h; cases e4.symm.trans h
      refine ⟨vi, vi, fun I1 q1 => ?_⟩
      have h6 := r6 v1.toNatClampNeg (by omega)
      have t1 := i_add (x := I b4 v1.toNatClampNeg) rfl z1 (by omega) (by omega)
      have last : ∀ (L1 : jL) (s2 : Int64), f_X7_take_b122 Z Q v0 x9 b7 v1 s2 I1 L1 := fun L1 s2 => by
        unfold f_X7_take_b122
        refine ⟨vi_of rfl (by omega) (by omega), fun L2 q2 I3 q3 => ?_⟩
        have a3 : I3 v0 3 = I v0 3 := by rw [q3, jpI_off (by decide), q1, jpI_ne n4]
        have a8 : I3 v0 8 = I v0 8 := by rw [q3, jpI_off (by decide), q1, jpI_ne n4]
        have t9 : (I3 v0 9).toInt = (I v0 9).toInt - 1 := by
          rw [q3, jpI_at, q1, jpI_ne n4]
          exact i_sub rfl z1 (by omega) (by omega)
        have c1 : I3 b1 = I b1 := by rw [q3, jpI_ne n1.symm, q1, jpI_ne n14]
        have c2 : I3 b2 = I b2 := by rw [q3, jpI_ne n2.symm, q1, jpI_ne n24]
        have c4 : ∀ p, (I3 b4 p).toInt = if p = v1.toNatClampNeg then (I b4 v1.toNatClampNeg).toInt + 1 else (I b4 p).toInt := fun p => by
          rw [q3, jpI_ne n4.symm, q1]
          by_cases q : p = v1.toNatClampNeg
          · rw [if_pos q, q, jpI_at]; exact t1
          · rw [if_neg q, jpI_off q]
        obtain ⟨g1', g2', g3'⟩ := WD_rows (I' := I3) w_I kv0 e0 e1 e2 e4 e5 (fun x x0 x1 x2 x4 x5 => by rw [q3, jpI_ne x0, q1, jpI_ne x4]) (fun j j3 j8 j9 => by rw [q3, jpI_off j9, q1, jpI_ne n4]) (by
          unfold RI1
          rw [a3, a8, t9, c1, c2]
          refine ⟨r1, r2, r3, r4, by omega, fun p hp => ?_⟩
          rw [c4]
          by_cases q : p = v1.toNatClampNeg
          · rw [if_pos q]; omega
          · rw [if_neg q]
            have := r6 p hp
            omega)
        exact hQ _ I3 L2 g1' g2' ⟨by rw [a3], fun p hp b hb => by rw [a3]; cases e1.symm.trans hb; rw [c1]; exact hp b1 e1, g3'⟩
      intro b h; cases e4.symm.trans h
      refine ⟨vi, fun x16 ex16 => ?_⟩
      have tx : x16.toInt = (I b4 v1.toNatClampNeg).toInt + 1 := by rw [ex16, q1, jpI_at]; exact t1
      intro b h; cases e7.symm.trans h
      intro b h; cases e5.symm.trans h
      refine ⟨vi, fun _ => by unfold f_X7_take_b119; exact last L _, fun c3 => ?_⟩
      intro b h; cases e0.symm.trans h
      refine ⟨fun _ => by unfold f_X7_take_b119; exact last L _, fun c4 => ?_⟩
      have h4 := (not_congr (i_le (i_nI (by omega)) rfl)).mp c4
      intro b h; cases e0.symm.trans h
      refine ⟨vi_of rfl (by omega) (by omega), ?_⟩
      intro b h; cases e6.symm.trans h
      exact ⟨vi, last L _⟩
    · have h8 := (not_congr (i_le rfl rfl)).mp c
      intro b h; cases e7.symm.trans h
      refine ⟨vi_of rfl (by omega) (by omega), ?_⟩
      intro b h; cases e7.symm.trans h
      have nx : ∀ x : Int32, x = v2 + 1 → x.toInt = v2.toInt + 1 := fun x ex => by rw [ex]; exact i_add rfl z1 (by omega) (by omega)
      refine ⟨vi_of rfl (by omega) (by omega), fun _ => ?_, fun _ => ?_⟩
      · unfold f_X7_take_b33
        intro x ex
        have := nx x ex
        exact ih v1 x (by omega) (by omega)
      · unfold f_X7_take_b33
        intro x ex
        have := nx x ex
        exact ih v2 x (by omega) (by omega)
theorem s_X7_take {Z : jZ} {I : jI} {L : jL} (w_I : WD Z I) (v0 : Nat) (kv0 : jk Z v0 7) {Q : Int64 → jI → jL → Prop}
    (hQ : ∀ (r : Int64) (I' : jI) (L' : jL), WD Z I' → FR W7 Z I Z I' → ((I' v0 3).toInt = (I v0 3).toInt ∧ (∀ p, FI Z I v0 p → FI Z I' v0 p) ∧ RO v0 Z I I') → Q r I' L') : f_X7_take v0 Z I L Q := by
  unfold f_X7_take
  have z0 : (0 : Int32).toInt = 0 := rfl
  have z1 : (1 : Int32).toInt = 1 := rfl
  exact ⟨3, l_X7_take w_I v0 kv0 hQ 3 0 1 (by omega) (by omega)⟩
theorem rw0 {Z : jZ} {I : jI} {a b : Nat} (w : WD Z I) (ha : jk Z a 7) (e : jr Z a 0 = some b) : 0 ≤ (I a 3).toInt ∧ (I a 3).toInt ≤ (jlen Z b : Int) ∧ jlen Z b ≤ 1048576 ∧ 64 ≤ jlen Z b := by
  obtain ⟨b0, b1, b2, b4, b5, e0, e1, e2, e4, e5, -, -, -, -, -, -, -, -, -, -, -, -, -, -, -, r1, -⟩ := rows_at w ha
  cases e0.symm.trans e
  exact r1
theorem rw3 {Z : jZ} {I : jI} {a : Nat} (w : WD Z I) (ha : jk Z a 7) : 0 ≤ (I a 3).toInt ∧ (I a 3).toInt ≤ 1048576 := by
  obtain ⟨b0, b1, b2, b4, b5, e0, e1, e2, e4, e5, -, -, -, -, -, -, -, -, -, -, -, -, -, -, -, r1, -⟩ := rows_at w ha
  omega
theorem rw9 {Z : jZ} {I : jI} {a : Nat} (w : WD Z I) (ha : jk Z a 7) : 0 ≤ (I a 9).toInt ∧ (I a 9).toInt ≤ 3145728 := by
  obtain ⟨b0, b1, b2, b4, b5, e0, e1, e2, e4, e5, -, -, -, -, -, -, -, -, -, -, -, -, -, -, -, -, -, -, -, r5, -⟩ := rows_at w ha
  omega
theorem capN0 {Z : jZ} {a b : Nat} (ha : jk Z a 0) (e : jr Z a 0 = some b) : capN Z b = 1048576 := by
  unfold capN
  exact if_pos ⟨a, ha, e⟩
/-- Arrays.fill, exactly -/
theorem fill_raw {Z : jZ} {v0 : Nat} {v1 : Int32} {Q : jI → jL → Prop} (hl : jlen Z v0 ≤ 1000000) {I : jI} {L : jL} (hQ : ∀ (I' : jI), (∀ x, x ≠ v0 → I' x = I x) → (∀ p, p < jlen Z v0 → I' v0 p = v1) → Q I' L) : f_J7_fill_53178 v0 v1 Z I L Q := by
  unfold f_J7_fill_53178
  have z0 : (0 : Int32).toInt = 0 := rfl
  have z1 : (1 : Int32).toInt = 1 := rfl
  have tl := i_nI (n := jlen Z v0) (by omega)
  have key : ∀ (n : Nat) (v2 : Int32) (I2 : jI), 0 ≤ v2.toInt → v2.toInt ≤ (jlen Z v0 : Int) → (∀ x, x ≠ v0 → I2 x = I x) → (∀ p : Nat, (p : Int) < v2.toInt → I2 v0 p = v1) → (jlen Z v0 : Int) - v2.toInt < (n : Int) → ∀ v3 : Int32, v3.toInt = (jlen Z v0 : Int) → f_J7_fill_53178_L5 Z Q n v0 v1 v2 v3 I2 L := by
    intro n
    induction n with
    | zero => intro v2 I2 h0 h1 h2 h3 h4 v3 h5; exfalso; omega
    | succ n ih =>
      intro v2 I2 h0 h1 h2 h3 h4 v3 h5
      unfold f_J7_fill_53178_L5
      refine ⟨fun c => ?_, fun c => ?_⟩
      · have := (i_le rfl rfl).mp c
        exact hQ I2 h2 (fun p hp => h3 p (by omega))
      · have := (not_congr (i_le rfl rfl)).mp c
        refine ⟨vi_of rfl (by omega) (by omega), fun I3 q3 x ex => ?_⟩
        have tx : x.toInt = v2.toInt + 1 := by rw [ex]; exact i_add rfl z1 (by omega) (by omega)
        have tn := i_nat (x := v2) rfl h0
        refine ih x I3 (by omega) (by omega) (fun y hy => by rw [q3, jpI_ne hy]; exact h2 y hy) (fun p hp => ?_) (by omega) v3 h5
        rw [q3]
        by_cases q : p = v2.toNatClampNeg
        · rw [q, jpI_at]
        · rw [jpI_off q]; exact h3 p (by omega)
  intro v3 e3
  exact ⟨jlen Z v0 + 1, key _ 0 I (by omega) (by omega) (fun _ _ => rfl) (fun p hp => by omega) (by omega) v3 (by rw [e3]; exact tl)⟩
