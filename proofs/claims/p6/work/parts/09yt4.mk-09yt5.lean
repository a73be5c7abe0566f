section
/-! ===== climbs by way of a STEP: the move that passes it ===== -/
theorem btP_top (p : Nat) : btP p ≤ 16777216 := by
  unfold btP
  have h : 2 ^ (24 - p) ≤ 2 ^ 24 := Nat.pow_le_pow_right (by decide) (by omega)
  have e : (2 : Nat) ^ 24 = 16777216 := rfl
  omega
/-- least efforts from the ground -/
def LFs (lp n : Nat) (op : Nat → Prop) (E : Nat → Nat → Int) (lf : Nat → Int) : Prop := (∀ p far, alw lp op p far → p ≤ n → lf p ≤ E p far + lf (p - far)) ∧ lf 0 = 0 ∧ ∀ q, 0 ≤ lf q
theorem lf_low {lp n : Nat} {op : Nat → Prop} {C E : Nat → Nat → Int} {lf : Nat → Int} (hf : LFs lp n op E lf) : ∀ (m p : Nat) (c e b : Int), p ≤ n → PX lp op C E m 0 p c e b → lf p ≤ e := by
  intro m
  induction m with
  | zero =>
    intro p c e b _ h
    obtain ⟨e1, -, e3, -⟩ := h
    rw [← e1, hf.2.1, e3]
    exact Int.le_refl _
  | succ m ih =>
    intro p c e b hp h
    obtain ⟨far, h1, h2, h3, h4, h5⟩ := h
    have g := ih _ _ _ _ (by omega) h5
    have u := hf.1 p far ⟨h1, h2, h3, h4⟩ hp
    omega
/-- a row of a place: its keys are of ways from there up, and none is better than all of them -/
def EWs (lp : Nat) (op : Nat → Prop) (C E : Nat → Nat → Int) (P lim : Int) (n q : Nat) (R : List Int) : Prop := (∀ k, k ∈ R → ∃ m c e b, PX lp op C E m q n c e b ∧ k = kf m c e b ∧ e ≤ max lim 0 ∧ c ≤ P) ∧ (∀ m c e b, op q → PX lp op C E m q n c e b → e ≤ lim → c ≤ P → ∃ k, k ∈ R ∧ k ≤ kf m c e b ∧ eK k ≤ e)
def SRCe (lp n : Nat) (op : Nat → Prop) (C E : Nat → Nat → Int) (R : Nat → List Int) (q : Nat) (S : Nat → List Int) (j : Nat) : Prop := (∀ i x, i ≤ j → x ∈ S i → ∃ far, alu lp n op q far ∧ ∃ y, y ∈ R (q + far) ∧ x = y + mvK C E (q + far) far) ∧ (op q → ∀ far y, alu lp n op q far → y ∈ R (q + far) → ∃ i, i ≤ j ∧ y + mvK C E (q + far) far ∈ S i)
theorem PX_up_b {lp n : Nat} {op : Nat → Prop} {C E : Nat → Nat → Int} (hn : n ≤ 24) (hC : ∀ p f, 0 ≤ C p f ∧ C p f ≤ 297) (hE : ∀ p f, 0 ≤ E p f ∧ E p f ≤ 600) {m q : Nat} {c e b : Int} (h : PX lp op C E m q n c e b) : m ≤ 24 ∧ 0 ≤ c ∧ c ≤ 7128 ∧ 0 ≤ e ∧ 0 ≤ b ∧ b ≤ 16777215 := by
  have r := PX_up_rng hn hC hE h
  have t := btP_top q
  have p := btP_pos n
  omega
theorem EW_top {lp n : Nat} {op : Nat → Prop} {C E : Nat → Nat → Int} {P lim : Int} (hP : 0 ≤ P) : EWs lp op C E P lim n n [16777215] := by
  refine ⟨fun k hk => ?_, fun m c e b _ hx he hc => ?_⟩
  · rw [List.mem_singleton.mp hk]
    exact ⟨0, 0, 0, 0, ⟨rfl, rfl, rfl, rfl⟩, rfl, by omega, hP⟩
  · have := PX_le _ _ _ _ _ _ hx
    have em : m = 0 := by omega
    subst em
    obtain ⟨-, e1, e2, e3⟩ := hx
    subst e1; subst e2; subst e3
    exact ⟨16777215, List.mem_cons_self, Int.le_refl _, Int.le_refl _⟩
set_option maxHeartbeats 1000000 in
theorem EW_step {lp n : Nat} {op : Nat → Prop} {C E : Nat → Nat → Int} {lf : Nat → Int} {K P : Int} {R : Nat → List Int} {q j : Nat} {S : Nat → List Int} (hC : ∀ p f, 0 ≤ C p f ∧ C p f ≤ 297) (hE : ∀ p f, 0 ≤ E p f ∧ E p f ≤ 600) (hu : LFs lp n op E lf) (hK : K ≤ 999) (hP : P ≤ 999) (hq : q < n) (hn : n ≤ 24) (ih : ∀ p, q < p → p ≤ n → EWs lp op C E P (K - lf p) n p (R p)) (hs : SRCe lp n op C E R q S j) (hSs : ∀ i, srt (S i)) (hSB : ∀ i x, x ∈ S i → x < BIG) : EWs lp op C E P (K - lf q) n q (kc P j (cnS S (j + 1)) S (K - lf q)) := by
  refine ⟨fun y hy => ?_, fun m c e b oq hx he hc => ?_⟩
  · obtain ⟨⟨i, hi, hm⟩, g2, g3⟩ := kc_in _ S _ y (Nat.le_refl _) hSs hSB hy
    obtain ⟨far, ha, k, hk, ey⟩ := hs.1 i y hi hm
    have h1 := ha.1
    have h3 := ha.2.2.1
    obtain ⟨m, c, e, b, hx, ek, he, hc⟩ := (ih (q + far) (by omega) (by omega)).1 k hk
    have hx2 := PX_up ha (show PX lp op C E m (q + far) n c (e + E (q + far) far - E (q + far) far) b from PX_cast hx rfl rfl rfl (by omega) rfl)
    have r := PX_up_b hn hC hE hx2
    have r0 := PX_up_b hn hC hE hx
    have u0 := hu.2.2 (q + far)
    have a9 := hE (q + far) far
    rw [ek, kf_add] at ey
    rw [ey, kf_eff r.1 (by omega) (by omega)] at g2
    rw [ey, kf_cost r.1 (by omega) (by omega)] at g3
    exact ⟨m + 1, _, _, _, hx2, ey, by omega, g3⟩
  · cases m with
    | zero => have := hx.1; omega
    | succ m =>
      obtain ⟨far, a1, a2, a4, hx1⟩ := PX_head _ _ _ _ _ _ hx
      have l := PX_le _ _ _ _ _ _ hx1
      have ha : alu lp n op q far := ⟨a1, a2, by omega, a4⟩
      have r1 := PX_up_b hn hC hE hx1
      have c9 := hC (q + far) far
      have e9 := hE (q + far) far
      have hlu := hu.1 (q + far) far ⟨a1, a2, by omega, a4⟩ (by omega)
      rw [show q + far - far = q by omega] at hlu
      obtain ⟨k, hk, k1, k2⟩ := (ih (q + far) (by omega) (by omega)).2 m _ _ _ a4 hx1 (by omega) (by omega)
      obtain ⟨m', c', e', b', hx', ek, he', hc'⟩ := (ih (q + far) (by omega) (by omega)).1 k hk
      have r' := PX_up_b hn hC hE hx'
      have u0 := hu.2.2 (q + far)
      have u1 := hu.2.2 q
      have ee : eK k = e' := by rw [ek]; exact kf_eff r'.1 (by omega) (by omega)
      obtain ⟨i, hi, hm⟩ := hs.2 oq far k ha hk
      have hx2 := PX_up ha (show PX lp op C E m' (q + far) n c' (e' + E (q + far) far - E (q + far) far) b' from PX_cast hx' rfl rfl rfl (by omega) rfl)
      have r2 := PX_up_b hn hC hE hx2
      have ec : cK k ≤ cK (kf m (c - C (q + far) far) (e - E (q + far) far) (b - btP (q + far))) := cK_mono k1
      rw [ek, kf_cost r'.1 (by omega) (by omega), kf_cost r1.1 (by omega) (by omega)] at ec
      rw [ek, kf_add] at hm
      obtain ⟨y, hy, y1, y2⟩ := kc_all (P := P) (j := j) _ S (K - lf q) i _ rfl hSs hSB hi hm (by rw [kf_eff r2.1 (by omega) (by omega)]; omega) (by rw [kf_cost r2.1 (by omega) (by omega)]; omega)
      refine ⟨y, hy, ?_, ?_⟩
      · have g : kf m (c - C (q + far) far) (e - E (q + far) far) (b - btP (q + far)) + mvK C E (q + far) far = kf (m + 1) c e b := by
          rw [kf_add]
          rw [show c - C (q + far) far + C (q + far) far = c by omega, show e - E (q + far) far + E (q + far) far = e by omega, show b - btP (q + far) + btP (q + far) = b by omega]
        rw [← kf_add, ← ek] at y1
        omega
      · rw [kf_eff r2.1 (by omega) (by omega)] at y2
        omega
/-- costs that are alike along a way -/
theorem PX_cg {lp : Nat} {op : Nat → Prop} {C C' E : Nat → Nat → Int} : ∀ (m q p : Nat) (c e b : Int), (∀ x far, q + far ≤ x → x ≤ p → 1 ≤ far → C' x far = C x far) → PX lp op C E m q p c e b → PX lp op C' E m q p c e b := by
  intro m
  induction m with
  | zero => intro q p c e b _ h; exact h
  | succ m ih =>
    intro q p c e b hc h
    obtain ⟨far, h1, h2, h3, h4, h5⟩ := h
    have l := PX_le _ _ _ _ _ _ h5
    refine ⟨far, h1, h2, h3, h4, ?_⟩
    rw [hc p far (by omega) (Nat.le_refl _) h1]
    exact ih _ _ _ _ _ (fun x f g1 g2 g3 => hc x f g1 (by omega) g3) h5
theorem PX_split {lp : Nat} {op : Nat → Prop} {C E : Nat → Nat → Int} {s n : Nat} : ∀ (m q : Nat) (c e b : Int), q ≤ s → s < n → PX lp op C E m q n c e b → ∃ (m1 m2 fr to : Nat) (c1 e1 b1 c2 e2 b2 : Int), PX lp op C E m1 q fr c1 e1 b1 ∧ fr ≤ s ∧ s < to ∧ to ≤ n ∧ to - fr ≤ lp ∧ op to ∧ PX lp op C E m2 to n c2 e2 b2 ∧ m = m1 + 1 + m2 ∧ c = c1 + C to (to - fr) + c2 ∧ e = e1 + E to (to - fr) + e2 ∧ b = b1 + btP to + b2 := by
  intro m
  induction m with
  | zero => intro q c e b h1 h2 h; have := h.1; omega
  | succ m ih =>
    intro q c e b h1 h2 h
    obtain ⟨far, a1, a2, a3, a4⟩ := PX_head _ _ _ _ _ _ h
    have l := PX_le _ _ _ _ _ _ a4
    by_cases g : s < q + far
    · have ef : q + far - q = far := by omega
      exact ⟨0, m, q, q + far, 0, 0, 0, _, _, _, ⟨rfl, rfl, rfl, rfl⟩, h1, g, by omega, by omega, a3, a4, by omega, by rw [ef]; omega, by rw [ef]; omega, by omega⟩
    · obtain ⟨m1, m2, fr, to, c1, e1, b1, c2, e2, b2, g1, g2, g3, g4, g5, g6, g7, g8, g9, g10, g11⟩ := ih _ _ _ _ (by omega) h2 a4
      exact ⟨m1 + 1, m2, fr, to, c1 + C (q + far) far, e1 + E (q + far) far, b1 + btP (q + far), c2, e2, b2, PX_cons _ _ _ _ _ _ _ a1 a2 a3 (PX_cast g1 rfl rfl (by omega) (by omega) (by omega)), g2, g3, g4, g5, g6, g7, by omega, by omega, by omega, by omega⟩
theorem PX_join {lp : Nat} {op : Nat → Prop} {C E : Nat → Nat → Int} {q fr to m1 : Nat} {c1 e1 b1 : Int} (h1 : PX lp op C E m1 q fr c1 e1 b1) (hf : fr < to) (hl : to - fr ≤ lp) (ho : op to) : ∀ (m2 n : Nat) (c2 e2 b2 : Int), PX lp op C E m2 to n c2 e2 b2 → PX lp op C E (m1 + 1 + m2) q n (c1 + C to (to - fr) + c2) (e1 + E to (to - fr) + e2) (b1 + btP to + b2) := by
  intro m2
  induction m2 with
  | zero =>
    intro n c2 e2 b2 h
    obtain ⟨e, ec, ee, eb⟩ := h
    subst e
    exact ⟨to - fr, by omega, hl, by omega, ho, PX_cast h1 rfl (by omega) (by omega) (by omega) (by omega)⟩
  | succ m2 ih =>
    intro n c2 e2 b2 h
    obtain ⟨far, a1, a2, a3, a4, a5⟩ := h
    exact ⟨far, a1, a2, a3, a4, PX_cast (ih _ _ _ _ a5) rfl rfl (by omega) (by omega) (by omega)⟩
/-- the move of a way (by its bits) that passes step s -/
def PAS (s : Nat) : Nat → Nat → Int → Nat → Nat → Prop
  | 0, _, _, _, _ => False
  | m + 1, q, b, fr, to => ∃ far, 1 ≤ far ∧ q + far ≤ 24 ∧ btP (q + far) ≤ b ∧ b < 2 * btP (q + far) ∧ ((s < q + far ∧ fr = q ∧ to = q + far) ∨ (q + far ≤ s ∧ PAS s m (q + far) (b - btP (q + far)) fr to))
theorem PAS_far {q f f' : Nat} {b : Int} (h2 : q + f ≤ 24) (h3 : btP (q + f) ≤ b) (h4 : b < 2 * btP (q + f)) (g2 : q + f' ≤ 24) (g3 : btP (q + f') ≤ b) (g4 : b < 2 * btP (q + f')) : f = f' := by
  rcases Nat.lt_trichotomy f f' with c | c | c
  · have l := btP_less (p := q + f') g2 (f' - f) (by omega) (by omega)
    rw [show q + f' - (f' - f) = q + f by omega] at l
    omega
  · exact c
  · have l := btP_less (p := q + f) h2 (f - f') (by omega) (by omega)
    rw [show q + f - (f - f') = q + f' by omega] at l
    omega
theorem PAS_one {s : Nat} : ∀ (m m' q : Nat) (b : Int) (fr to fr' to' : Nat), PAS s m q b fr to → PAS s m' q b fr' to' → fr = fr' ∧ to = to' := by
  intro m
  induction m with
  | zero => intro m' q b fr to fr' to' h; exact h.elim
  | succ m ih =>
    intro m' q b fr to fr' to' h h'
    cases m' with
    | zero => exact h'.elim
    | succ m' =>
      obtain ⟨f, h1, h2, h3, h4, h5⟩ := h
      obtain ⟨f', g1, g2, g3, g4, g5⟩ := h'
      have ef := PAS_far h2 h3 h4 g2 g3 g4
      subst ef
      rcases h5 with ⟨a1, a2, a3⟩ | ⟨a1, a2⟩
      · rcases g5 with ⟨d1, d2, d3⟩ | ⟨d1, d2⟩
        · omega
        · omega
      · rcases g5 with ⟨d1, d2, d3⟩ | ⟨d1, d2⟩
        · omega
        · exact ih _ _ _ _ _ _ _ a2 d2
theorem PAS_px {lp n : Nat} {op : Nat → Prop} {C E : Nat → Nat → Int} {s fr to m2 : Nat} {c2 e2 b2 : Int} (hn : n ≤ 24) (h1 : fr ≤ s) (h2 : s < to) (h3 : to ≤ n) (hx : PX lp op C E m2 to n c2 e2 b2) : ∀ (m1 q : Nat) (c1 e1 b1 : Int), PX lp op C E m1 q fr c1 e1 b1 → PAS s (m1 + 1 + m2) q (b1 + btP to + b2) fr to := by
  have g := PX_bits _ _ _ _ _ _ hn hx
  have pn := btP_pos n
  have l := btP_less (p := to) (by omega) (to - fr) (by omega) (by omega)
  rw [show to - (to - fr) = fr by omega] at l
  intro m1
  induction m1 with
  | zero =>
    intro q c1 e1 b1 h
    obtain ⟨e, -, -, eb⟩ := h
    rw [show 0 + 1 + m2 = m2 + 1 by omega]
    have eq : q + (to - fr) = to := by omega
    exact ⟨to - fr, by omega, by omega, by rw [eq]; omega, by rw [eq]; omega, Or.inl ⟨by omega, e.symm, eq.symm⟩⟩
  | succ m1 ih =>
    intro q c1 e1 b1 h
    obtain ⟨far, a1, a2, a3, a4⟩ := PX_head _ _ _ _ _ _ h
    have l4 := PX_le _ _ _ _ _ _ a4
    have g4 := PX_bits _ _ _ _ _ _ (by omega) a4
    have pt := btP_pos to
    rw [show m1 + 1 + 1 + m2 = (m1 + 1 + m2) + 1 by omega]
    refine ⟨far, a1, by omega, by omega, by omega, Or.inr ⟨by omega, ?_⟩⟩
    have r := ih _ _ _ _ a4
    rw [show b1 - btP (q + far) + btP to + b2 = b1 + btP to + b2 - btP (q + far) by omega] at r
    exact r
/-- the least of two rows joined, within an effort -/
def JNs (R1 R2 : List Int) (lim v : Int) : Prop := (v = BIG ∧ ∀ a b, a ∈ R1 → b ∈ R2 → ¬ eK a + eK b ≤ lim) ∨ (v < BIG ∧ (∃ a b, a ∈ R1 ∧ b ∈ R2 ∧ eK a + eK b ≤ lim ∧ v = a + b - 16777215) ∧ ∀ a b, a ∈ R1 → b ∈ R2 → eK a + eK b ≤ lim → v ≤ a + b - 16777215)
/-- the key of the best climb by one move -/
def OFk (lp n : Nat) (op : Nat → Prop) (C' E : Nat → Nat → Int) (K : Int) (s : Nat) (R1 R2 : Nat → List Int) (fr to : Nat) (k : Int) : Prop := fr ≤ s ∧ s < to ∧ to ≤ n ∧ to - fr ≤ lp ∧ op to ∧ ∃ v, JNs (R1 fr) (R2 to) (K - E to (to - fr)) v ∧ v < BIG ∧ k = v + mvK C' E to (to - fr)
set_option maxHeartbeats 2000000 in
/-- of one move: it is a climb's, and none by that move is better -/
theorem OFk_is {lp n : Nat} {op : Nat → Prop} {C C' E : Nat → Nat → Int} {lu lf : Nat → Int} {K P : Int} {s : Nat} {R1 R2 : Nat → List Int} (hn : n ≤ 24) (hC : ∀ p f, 0 ≤ C p f ∧ C p f ≤ 297) (hC' : ∀ p f, 0 ≤ C' p f ∧ C' p f ≤ 297) (hE : ∀ p f, 0 ≤ E p f ∧ E p f ≤ 600) (hK : K ≤ 999) (cg : ∀ x far, 1 ≤ far → far ≤ x → (x ≤ s ∨ s + far < x) → C' x far = C x far) (h1 : ∀ q, q ≤ s → RWs lp op C E P (K - lu q) q (R1 q)) (h2 : ∀ q, s < q → q ≤ n → EWs lp op C E P (K - lf q) n q (R2 q)) (u0 : ∀ q, 0 ≤ lu q) (f0 : ∀ q, 0 ≤ lf q) {fr to : Nat} {k : Int} (h : OFk lp n op C' E K s R1 R2 fr to k) : ∃ m c e b, PX lp op C' E m 0 n c e b ∧ e ≤ K ∧ k = kf m c e b ∧ PAS s m 0 b fr to := by
  obtain ⟨a1, a2, a3, a4, a5, v, hv, hB, ek⟩ := h
  rcases hv with ⟨e, -⟩ | ⟨-, ⟨x, y, hx, hy, he, ev⟩, -⟩
  · omega
  obtain ⟨m1, c1, e1, b1, x1, x2, x3, x4⟩ := (h1 fr a1).1 x hx
  obtain ⟨m2, c2, e2, b2, y1, y2, y3, y4⟩ := (h2 to a2 a3).1 y hy
  have r1 := PX_rng (by omega) hC hE x1
  have r2 := PX_up_b hn hC hE y1
  have ul := u0 fr
  have fl := f0 to
  have z1 : eK x = e1 := by rw [x2]; exact kf_eff r1.1 (by omega) (by omega)
  have z2 : eK y = e2 := by rw [y2]; exact kf_eff r2.1 (by omega) (by omega)
  have x1' := PX_cg (C' := C') _ _ _ _ _ _ (fun p far g1 g2 g3 => cg p far g3 (by omega) (Or.inl (by omega))) x1
  have y1' := PX_cg (C' := C') _ _ _ _ _ _ (fun p far g1 g2 g3 => cg p far g3 (by omega) (Or.inr (by omega))) y1
  have j := PX_join x1' (by omega) a4 a5 _ _ _ _ _ y1'
  refine ⟨m1 + 1 + m2, _, _, _, j, by omega, ?_, PAS_px hn a1 a2 a3 y1' _ _ _ _ _ x1'⟩
  rw [ek, ev, x2, y2]
  unfold kf mvK
  omega
set_option maxHeartbeats 2000000 in
/-- any climb that can be passes by some move, and the best by that move is no worse -/
theorem OFk_all {lp n : Nat} {op : Nat → Prop} {C C' E : Nat → Nat → Int} {lu lf : Nat → Int} {K P : Int} {s : Nat} {R1 R2 : Nat → List Int} (hn : n ≤ 24) (hs : s < n) (h0 : op 0) (hC : ∀ p f, 0 ≤ C p f ∧ C p f ≤ 297) (hC' : ∀ p f, 0 ≤ C' p f ∧ C' p f ≤ 297) (hE : ∀ p f, 0 ≤ E p f ∧ E p f ≤ 600) (hK : K ≤ 999) (cg : ∀ x far, 1 ≤ far → far ≤ x → (x ≤ s ∨ s + far < x) → C' x far = C x far) (hu : LUs lp n op E lu) (hf : LFs lp n op E lf) (h1 : ∀ q, q ≤ s → RWs lp op C E P (K - lu q) q (R1 q)) (h2 : ∀ q, s < q → q ≤ n → EWs lp op C E P (K - lf q) n q (R2 q)) (J : Nat → Nat → Int) (hJ : ∀ fr to, fr ≤ s → s < to → to ≤ n → to - fr ≤ lp → op to → JNs (R1 fr) (R2 to) (K - E to (to - fr)) (J fr to)) {m : Nat} {c e b : Int} (h : FEA lp n op C' E K P m c e b) : ∃ fr to k, OFk lp n op C' E K s R1 R2 fr to k ∧ k ≤ kf m c e b := by
  obtain ⟨hx, he, hc⟩ := h
  obtain ⟨m1, m2, fr, to, c1, e1, b1, c2, e2, b2, g1, g2, g3, g4, g5, g6, g7, g8, g9, g10, g11⟩ := PX_split _ _ _ _ _ (Nat.zero_le _) hs hx
  have x1 := PX_cg (C' := C) _ _ _ _ _ _ (fun p far q1 q2 q3 => (cg p far q3 (by omega) (Or.inl (by omega))).symm) g1
  have y1 := PX_cg (C' := C) _ _ _ _ _ _ (fun p far q1 q2 q3 => (cg p far q3 (by omega) (Or.inr (by omega))).symm) g7
  have r1 := PX_rng (by omega) hC hE x1
  have r2 := PX_up_b hn hC hE y1
  have c9 := hC' to (to - fr)
  have e9 := hE to (to - fr)
  have of := PX_op h0 x1
  have l1 := lu_low hu _ _ _ _ _ of (PX_cons m2 fr n (to - fr) (c2 + C (fr + (to - fr)) (to - fr)) (e2 + E (fr + (to - fr)) (to - fr)) (b2 + btP (fr + (to - fr))) (by omega) g5 (by rw [show fr + (to - fr) = to by omega]; exact g6) (PX_cast y1 (by omega) rfl (by omega) (by omega) (by omega)))
  rw [show fr + (to - fr) = to by omega] at l1
  have l2 := lf_low hf _ _ _ _ _ (by omega) (show PX lp op C E (m1 + 1) 0 to (c1 + C to (to - fr)) (e1 + E to (to - fr)) (b1 + btP to) from ⟨to - fr, by omega, g5, by omega, g6, PX_cast x1 rfl (by omega) (by omega) (by omega) (by omega)⟩)
  obtain ⟨k1, hk1, k11, k12⟩ := (h1 fr g2).2 _ _ _ _ x1 (by omega) (by omega)
  obtain ⟨k2, hk2, k21, k22⟩ := (h2 to g3 g4).2 _ _ _ _ g6 y1 (by omega) (by omega)
  rcases hJ fr to g2 g3 g4 g5 g6 with ⟨-, q2⟩ | ⟨q1, q2, q3⟩
  · exact absurd (show eK k1 + eK k2 ≤ K - E to (to - fr) by omega) (q2 k1 k2 hk1 hk2)
  · refine ⟨fr, to, _, ⟨g2, g3, g4, g5, g6, J fr to, Or.inr ⟨q1, q2, q3⟩, q1, rfl⟩, ?_⟩
    have q4 := q3 k1 k2 hk1 hk2 (by omega)
    rw [g8, g9, g10, g11]
    unfold kf at k11 k21 ⊢
    unfold mvK
    omega
/-- the best of all moves that pass step s -/
def OFb (lp n : Nat) (op : Nat → Prop) (C' E : Nat → Nat → Int) (K : Int) (s : Nat) (R1 R2 : Nat → List Int) (w : Int) (pay : Int) (pr : Nat → Nat → Int) : Prop := (w = BIG ∧ ∀ fr to k, ¬ OFk lp n op C' E K s R1 R2 fr to k) ∨ (w < BIG ∧ (∃ fr to, OFk lp n op C' E K s R1 R2 fr to w ∧ pay = pr fr to) ∧ ∀ fr to k, OFk lp n op C' E K s R1 R2 fr to k → w ≤ k)
set_option maxHeartbeats 2000000 in
theorem OFb_lst {lp n : Nat} {op : Nat → Prop} {C C' E : Nat → Nat → Int} {lu lf : Nat → Int} {K P : Int} {s : Nat} {R1 R2 : Nat → List Int} {w pay : Int} {pr : Nat → Nat → Int} (hn : n ≤ 24) (hs : s < n) (h0 : op 0) (hC : ∀ p f, 0 ≤ C p f ∧ C p f ≤ 297) (hC' : ∀ p f, 0 ≤ C' p f ∧ C' p f ≤ 297) (hE : ∀ p f, 0 ≤ E p f ∧ E p f ≤ 600) (hK : K ≤ 999) (cg : ∀ x far, 1 ≤ far → far ≤ x → (x ≤ s ∨ s + far < x) → C' x far = C x far) (hu : LUs lp n op E lu) (hf : LFs lp n op E lf) (h1 : ∀ q, q ≤ s → RWs lp op C E P (K - lu q) q (R1 q)) (h2 : ∀ q, s < q → q ≤ n → EWs lp op C E P (K - lf q) n q (R2 q)) (J : Nat → Nat → Int) (hJ : ∀ fr to, fr ≤ s → s < to → to ≤ n → to - fr ≤ lp → op to → JNs (R1 fr) (R2 to) (K - E to (to - fr)) (J fr to)) (hw : OFb lp n op C' E K s R1 R2 w pay pr) : (w = BIG ∧ ∀ m c e b, ¬ FEA lp n op C' E K P m c e b) ∨ (w < BIG ∧ 0 ≤ w ∧ P < cK w ∧ ∀ m c e b, ¬ FEA lp n op C' E K P m c e b) ∨ (w < BIG ∧ 0 ≤ w ∧ cK w ≤ P ∧ ∃ m c e b fr to, LST lp n op C' E K P m c e b ∧ w = kf m c e b ∧ PAS s m 0 b fr to ∧ pay = pr fr to) := by
  have all : ∀ m c e b, FEA lp n op C' E K P m c e b → ∃ fr to k, OFk lp n op C' E K s R1 R2 fr to k ∧ k ≤ kf m c e b := fun m c e b h => OFk_all hn hs h0 hC hC' hE hK cg hu hf h1 h2 J hJ h
  rcases hw with ⟨e, q⟩ | ⟨hB, ⟨fr, to, hk, hp⟩, q⟩
  · refine Or.inl ⟨e, fun m c e b h => ?_⟩
    obtain ⟨fr, to, k, g, -⟩ := all m c e b h
    exact q fr to k g
  · obtain ⟨m, c, e, b, x1, x2, x3, x4⟩ := OFk_is hn hC hC' hE hK cg h1 h2 hu.2.2 hf.2.2 hk
    have r := PX_rng hn hC' hE x1
    have ec : cK w = c := by rw [x3]; exact kf_cost r.1 (by omega) (by omega)
    have low : ∀ m' c' e' b', FEA lp n op C' E K P m' c' e' b' → kf m c e b ≤ kf m' c' e' b' := fun m' c' e' b' h => by
      obtain ⟨fr', to', k', g, gl⟩ := all m' c' e' b' h
      have := q fr' to' k' g
      omega
    have pos : 0 ≤ w := by
      rw [x3]
      unfold kf
      omega
    by_cases cP : cK w ≤ P
    · exact Or.inr (Or.inr ⟨hB, pos, cP, m, c, e, b, fr, to, ⟨⟨x1, x2, by omega⟩, low⟩, x3, x4, hp⟩)
    · refine Or.inr (Or.inl ⟨hB, pos, by omega, fun m' c' e' b' h => ?_⟩)
      have l := low m' c' e' b' h
      have r' := PX_rng hn hC' hE h.1
      have m9 := cK_mono l
      have k9 := h.2.1
      rw [kf_cost r.1 (by omega) (by omega), kf_cost r'.1 (by omega) (by omega)] at m9
      have := h.2.2
      omega
/-! ===== cells that a method doesn't reach stay as they are ===== -/
/-- P: cells that are to stay; so they did, from (Z, I, L) to (Z', I', L') -/
def KP (P : Nat → Prop) (Z : jZ) (I : jI) (L : jL) (Z' : jZ) (I' : jI) (L' : jL) : Prop := (∀ x, P x → x ∈ Z.1) ∧ (∀ a k, jk Z a k → jk Z' a k) ∧ (∀ x, P x → I' x = I x ∧ L' x = L x ∧ ∀ j, jr Z' x j = jr Z x j) ∧ (∀ a j k, jk Z a k → ¬ (k = 7 ∧ j = 0) → jr Z' a j = jr Z a j) ∧ (∀ a b, jk Z a 7 → jr Z' a 0 = some b → jr Z a 0 = some b ∨ ¬ P b)
def DN7 (P : Nat → Prop) (Z : jZ) (v : Nat) : Prop := jk Z v 7 ∧ ¬ P v ∧ ∀ j b, j ∈ ([0, 1, 2, 4, 5, 6, 7] : List Nat) → jr Z v j = some b → ¬ P b
def DN3 (P : Nat → Prop) (Z : jZ) (v : Nat) : Prop := jk Z v 3 ∧ ¬ P v ∧ ∀ j b, j ∈ ([0, 1, 2] : List Nat) → jr Z v j = some b → ¬ P b
def DN4 (P : Nat → Prop) (Z : jZ) (v : Nat) : Prop := jk Z v 4 ∧ ¬ P v ∧ ∀ j b, j ∈ ([0, 1, 2] : List Nat) → jr Z v j = some b → ¬ P b
def DN8 (P : Nat → Prop) (Z : jZ) (v : Nat) : Prop := jk Z v 8 ∧ ¬ P v ∧ (∀ j b, j ∈ ([0, 1, 2, 3, 5, 8] : List Nat) → jr Z v j = some b → ¬ P b) ∧ (∀ b, jr Z v 4 = some b → DN4 P Z b) ∧ (∀ j b, j ∈ ([6, 7] : List Nat) → jr Z v j = some b → DN3 P Z b)
def DN6 (P : Nat → Prop) (Z : jZ) (v : Nat) : Prop := jk Z v 6 ∧ ¬ P v ∧ (∀ j b, j ∈ ([4, 5, 6, 7, 8, 11, 12, 13] : List Nat) → jr Z v j = some b → ¬ P b) ∧ (∀ b, jr Z v 0 = some b → DN8 P Z b) ∧ (∀ j b, j ∈ ([9, 10] : List Nat) → jr Z v j = some b → DN7 P Z b)
/-- of a pilgrim's routes the rising rows alone are reached -/
def DN9 (P : Nat → Prop) (Z : jZ) (v : Nat) : Prop := jk Z v 6 ∧ ¬ P v ∧ (∀ j b, j ∈ ([4, 5, 6, 7, 8, 11, 12, 13] : List Nat) → jr Z v j = some b → ¬ P b) ∧ (∀ b, jr Z v 0 = some b → DN8 P Z b) ∧ (∀ b, jr Z v 9 = some b → DN7 P Z b)
/-- of a pilgrim's routes the rows of ends alone are reached -/
def DN10 (P : Nat → Prop) (Z : jZ) (v : Nat) : Prop := jk Z v 6 ∧ ¬ P v ∧ (∀ j b, j ∈ ([4, 5, 6, 7, 8, 11, 12, 13] : List Nat) → jr Z v j = some b → ¬ P b) ∧ (∀ b, jr Z v 0 = some b → DN8 P Z b) ∧ (∀ b, jr Z v 10 = some b → DN7 P Z b)
theorem KP.rf {P : Nat → Prop} {Z : jZ} {I : jI} {L : jL} (h : ∀ x, P x → x ∈ Z.1) : KP P Z I L Z I L := ⟨h, fun _ _ q => q, fun _ _ => ⟨rfl, rfl, fun _ => rfl⟩, fun _ _ _ _ _ => rfl, fun _ _ _ e => Or.inl e⟩
theorem KP.trans {P : Nat → Prop} {Z Z1 Z2 : jZ} {I I1 I2 : jI} {L L1 L2 : jL} (h : KP P Z I L Z1 I1 L1) (g : KP P Z1 I1 L1 Z2 I2 L2) : KP P Z I L Z2 I2 L2 := by
  refine ⟨h.1, fun a k q => g.2.1 a k (h.2.1 a k q), fun x hx => ?_, fun a j k q n => ?_, fun a b q e => ?_⟩
  · obtain ⟨a1, a2, a3⟩ := h.2.2.1 x hx
    obtain ⟨b1, b2, b3⟩ := g.2.2.1 x hx
    exact ⟨b1.trans a1, b2.trans a2, fun j => (b3 j).trans (a3 j)⟩
  · exact (g.2.2.2.1 a j k (h.2.1 a k q) n).trans (h.2.2.2.1 a j k q n)
  · rcases g.2.2.2.2 a b (h.2.1 a 7 q) e with e1 | e1
    · exact h.2.2.2.2 a b q e1
    · exact Or.inr e1
theorem KP.wI {P : Nat → Prop} {Z Z' : jZ} {I I' J : jI} {L L' : jL} {b : Nat} {f : Nat → Int32} (h : KP P Z I L Z' I' L') (n : ¬ P b) (e : J = va_up I' b f) : KP P Z I L Z' J L' := by
  refine ⟨h.1, h.2.1, fun x hx => ⟨?_, (h.2.2.1 x hx).2⟩, h.2.2.2⟩
  rw [e, va_up_ne _ _ (fun q => n (by rw [← q]; exact hx))]
  exact (h.2.2.1 x hx).1
theorem KP.wL {P : Nat → Prop} {Z Z' : jZ} {I I' : jI} {L L' M : jL} {b : Nat} {f : Nat → Int64} (h : KP P Z I L Z' I' L') (n : ¬ P b) (e : M = va_up L' b f) : KP P Z I L Z' I' M := by
  refine ⟨h.1, h.2.1, fun x hx => ⟨(h.2.2.1 x hx).1, ?_, (h.2.2.1 x hx).2.2⟩, h.2.2.2⟩
  rw [e, va_up_ne _ _ (fun q => n (by rw [← q]; exact hx))]
  exact (h.2.2.1 x hx).2.1
theorem KP.wR {P : Nat → Prop} {Z Z' Z1 : jZ} {I I' : jI} {L L' : jL} {v b : Nat} (h : KP P Z I L Z' I' L') (d : DN7 P Z v) (n : ¬ P b) (e : Z1 = jpR Z' v 0 (some b)) : KP P Z I L Z1 I' L' := by
  subst e
  refine ⟨h.1, h.2.1, fun x hx => ⟨(h.2.2.1 x hx).1, (h.2.2.1 x hx).2.1, fun j => ?_⟩, fun a j k q n7 => ?_, fun a c q ec => ?_⟩
  · rw [jrR_ne (fun q => d.2.1 (by rw [← q]; exact hx))]
    exact (h.2.2.1 x hx).2.2 j
  · by_cases c : a = v
    · subst c
      have hk : k = 7 := q.2.symm.trans d.1.2
      rw [jrR_off (fun q2 => n7 ⟨hk, q2⟩)]
      exact h.2.2.2.1 a j k q n7
    · rw [jrR_ne c]
      exact h.2.2.2.1 a j k q n7
  · by_cases c2 : a = v
    · subst c2
      rw [jrR_at] at ec
      cases ec
      exact Or.inr n
    · rw [jrR_ne c2] at ec
      exact h.2.2.2.2 a c q ec
theorem KP.nw {P : Nat → Prop} {Z Z' Z1 : jZ} {I I' : jI} {L L' : jL} {q k m : Nat} (h : KP P Z I L Z' I' L') (hq : q ∉ Z'.1) (e : Z1 = jnw Z' q k m) : ¬ P q ∧ KP P Z I L Z1 I' L' := by
  have nq : ∀ a c, jk Z a c → a ≠ q := fun a c ka g => hq (by rw [← g]; exact (h.2.1 a c ka).1)
  have nP : ¬ P q := fun p => nq q _ ⟨h.1 q p, rfl⟩ rfl
  subst e
  have ref : ∀ a j, a ≠ q → jr (jnw Z' q k m) a j = jr Z' a j := fun a j g => congrFun (va_up_ne _ _ g) j
  refine ⟨nP, h.1, fun a c ka => ?_, fun x hx => ⟨(h.2.2.1 x hx).1, (h.2.2.1 x hx).2.1, fun j => ?_⟩, fun a j c ka n7 => ?_, fun a b ka eb => ?_⟩
  · have g := h.2.1 a c ka
    exact ⟨List.mem_append_left _ g.1, (va_up_ne _ _ (nq a c ka)).trans g.2⟩
  · rw [ref x j (fun g => nP (by rw [← g]; exact hx))]
    exact (h.2.2.1 x hx).2.2 j
  · rw [ref a j (nq a c ka)]
    exact h.2.2.2.1 a j c ka n7
  · rw [ref a 0 (nq a 7 ka)] at eb
    exact h.2.2.2.2 a b ka eb
theorem dn_7 {P : Nat → Prop} {Z Z' : jZ} {I I' : jI} {L L' : jL} {v j b : Nat} (d : DN7 P Z v) (h : KP P Z I L Z' I' L') (hj : j ∈ ([0, 1, 2, 4, 5, 6, 7] : List Nat)) (e : jr Z' v j = some b) : ¬ P b := by
  by_cases c : j = 0
  · subst c
    rcases h.2.2.2.2 v b d.1 e with e1 | e1
    · exact d.2.2 0 b hj e1
    · exact e1
  · exact d.2.2 j b hj ((h.2.2.2.1 v j 7 d.1 (fun q => c q.2)).symm.trans e)
theorem dn_3 {P : Nat → Prop} {Z Z' : jZ} {I I' : jI} {L L' : jL} {v j b : Nat} (d : DN3 P Z v) (h : KP P Z I L Z' I' L') (hj : j ∈ ([0, 1, 2] : List Nat)) (e : jr Z' v j = some b) : ¬ P b := d.2.2 j b hj ((h.2.2.2.1 v j 3 d.1 (fun q => absurd q.1 (by decide))).symm.trans e)
theorem dn_4 {P : Nat → Prop} {Z Z' : jZ} {I I' : jI} {L L' : jL} {v j b : Nat} (d : DN4 P Z v) (h : KP P Z I L Z' I' L') (hj : j ∈ ([0, 1, 2] : List Nat)) (e : jr Z' v j = some b) : ¬ P b := d.2.2 j b hj ((h.2.2.2.1 v j 4 d.1 (fun q => absurd q.1 (by decide))).symm.trans e)
theorem dn_8 {P : Nat → Prop} {Z Z' : jZ} {I I' : jI} {L L' : jL} {v j b : Nat} (d : DN8 P Z v) (h : KP P Z I L Z' I' L') (hj : j ∈ ([0, 1, 2, 3, 5, 8] : List Nat)) (e : jr Z' v j = some b) : ¬ P b := d.2.2.1 j b hj ((h.2.2.2.1 v j 8 d.1 (fun q => absurd q.1 (by decide))).symm.trans e)
theorem dn_8_4 {P : Nat → Prop} {Z Z' : jZ} {I I' : jI} {L L' : jL} {v b : Nat} (d : DN8 P Z v) (h : KP P Z I L Z' I' L') (e : jr Z' v 4 = some b) : DN4 P Z b := d.2.2.2.1 b ((h.2.2.2.1 v 4 8 d.1 (fun q => absurd q.1 (by decide))).symm.trans e)
theorem dn_8_3 {P : Nat → Prop} {Z Z' : jZ} {I I' : jI} {L L' : jL} {v j b : Nat} (d : DN8 P Z v) (h : KP P Z I L Z' I' L') (hj : j ∈ ([6, 7] : List Nat)) (e : jr Z' v j = some b) : DN3 P Z b := d.2.2.2.2 j b hj ((h.2.2.2.1 v j 8 d.1 (fun q => absurd q.1 (by decide))).symm.trans e)
theorem dn_6 {P : Nat → Prop} {Z Z' : jZ} {I I' : jI} {L L' : jL} {v j b : Nat} (d : DN6 P Z v) (h : KP P Z I L Z' I' L') (hj : j ∈ ([4, 5, 6, 7, 8, 11, 12, 13] : List Nat)) (e : jr Z' v j = some b) : ¬ P b := d.2.2.1 j b hj ((h.2.2.2.1 v j 6 d.1 (fun q => absurd q.1 (by decide))).symm.trans e)
theorem dn_6_8 {P : Nat → Prop} {Z Z' : jZ} {I I' : jI} {L L' : jL} {v b : Nat} (d : DN6 P Z v) (h : KP P Z I L Z' I' L') (e : jr Z' v 0 = some b) : DN8 P Z b := d.2.2.2.1 b ((h.2.2.2.1 v 0 6 d.1 (fun q => absurd q.1 (by decide))).symm.trans e)
theorem dn_6_7 {P : Nat → Prop} {Z Z' : jZ} {I I' : jI} {L L' : jL} {v j b : Nat} (d : DN6 P Z v) (h : KP P Z I L Z' I' L') (hj : j ∈ ([9, 10] : List Nat)) (e : jr Z' v j = some b) : DN7 P Z b := d.2.2.2.2 j b hj ((h.2.2.2.1 v j 6 d.1 (fun q => absurd q.1 (by decide))).symm.trans e)
theorem dn_9 {P : Nat → Prop} {Z Z' : jZ} {I I' : jI} {L L' : jL} {v j b : Nat} (d : DN9 P Z v) (h : KP P Z I L Z' I' L') (hj : j ∈ ([4, 5, 6, 7, 8, 11, 12, 13] : List Nat)) (e : jr Z' v j = some b) : ¬ P b := d.2.2.1 j b hj ((h.2.2.2.1 v j 6 d.1 (fun q => absurd q.1 (by decide))).symm.trans e)
theorem dn_9_8 {P : Nat → Prop} {Z Z' : jZ} {I I' : jI} {L L' : jL} {v b : Nat} (d : DN9 P Z v) (h : KP P Z I L Z' I' L') (e : jr Z' v 0 = some b) : DN8 P Z b := d.2.2.2.1 b ((h.2.2.2.1 v 0 6 d.1 (fun q => absurd q.1 (by decide))).symm.trans e)
theorem dn_9_7 {P : Nat → Prop} {Z Z' : jZ} {I I' : jI} {L L' : jL} {v b : Nat} (d : DN9 P Z v) (h : KP P Z I L Z' I' L') (e : jr Z' v 9 = some b) : DN7 P Z b := d.2.2.2.2 b ((h.2.2.2.1 v 9 6 d.1 (fun q => absurd q.1 (by decide))).symm.trans e)
theorem dn_10 {P : Nat → Prop} {Z Z' : jZ} {I I' : jI} {L L' : jL} {v j b : Nat} (d : DN10 P Z v) (h : KP P Z I L Z' I' L') (hj : j ∈ ([4, 5, 6, 7, 8, 11, 12, 13] : List Nat)) (e : jr Z' v j = some b) : ¬ P b := d.2.2.1 j b hj ((h.2.2.2.1 v j 6 d.1 (fun q => absurd q.1 (by decide))).symm.trans e)
theorem dn_10_8 {P : Nat → Prop} {Z Z' : jZ} {I I' : jI} {L L' : jL} {v b : Nat} (d : DN10 P Z v) (h : KP P Z I L Z' I' L') (e : jr Z' v 0 = some b) : DN8 P Z b := d.2.2.2.1 b ((h.2.2.2.1 v 0 6 d.1 (fun q => absurd q.1 (by decide))).symm.trans e)
theorem dn_10_7 {P : Nat → Prop} {Z Z' : jZ} {I I' : jI} {L L' : jL} {v b : Nat} (d : DN10 P Z v) (h : KP P Z I L Z' I' L') (e : jr Z' v 10 = some b) : DN7 P Z b := d.2.2.2.2 b ((h.2.2.2.1 v 10 6 d.1 (fun q => absurd q.1 (by decide))).symm.trans e)
theorem loc_J7_copyOf_c38d5 {P : Nat → Prop} {ZB : jZ} {IB : jI} {LB : jL} {B : Nat × Nat} {v0 : Nat} {v1 : Int32} {Z : jZ} {I : jI} {L : jL} {Q1 Q2 : Option Nat → jZ → jI → jL → Prop} (kp : KP P ZB IB LB Z I L) (h1 : f_J7_copyOf_c38d5 B v0 v1 Z I L Q1) (hq : ∀ r Z' I' L', KP P ZB IB LB Z' I' L' → (∀ b, r = some b → ¬ P b) → Q1 r Z' I' L' → Q2 r Z' I' L') : f_J7_copyOf_c38d5 B v0 v1 Z I L Q2 := by
  unfold f_J7_copyOf_c38d5 at h1 ⊢
  refine ⟨fun c => ?_, h1.2⟩
  have h1 := h1.1 c
  refine ⟨h1.1, fun q3 n3 Z4 e4 I5 e5 L6 e6 => ?_⟩
  have h1 := h1.2 q3 n3 Z4 e4 I5 e5 L6 e6
  refine ⟨h1.1, fun L9 e9 => ?_⟩
  have h1 := h1.2 L9 e9
  obtain ⟨nP, k4⟩ := KP.nw kp n3 e4
  exact hq _ _ _ _ (KP.wL (KP.wL (KP.wI k4 nP e5) nP e6) nP e9) (fun b eb => by cases eb; exact nP) h1
/-! ===== cells that are not reached: the methods of a pilgrim's routes ===== -/
set_option maxHeartbeats 4000000 in
theorem loc_X6_moveTo {P : Nat → Prop} {ZB : jZ} {IB : jI} {LB : jL} {v0 : Int32} {v1 : Int32} {Z : jZ} {I : jI} {L : jL} {Q1 Q2 : Int32 → jI → jL → Prop} (kp : KP P ZB IB LB Z I L) (h1 : f_X6_moveTo v0 v1 Z I L Q1) (hq : ∀ (x0 : Int32) (x1 : jI) (x2 : jL), KP P ZB IB LB Z x1 x2 → Q1 x0 x1 x2 → Q2 x0 x1 x2) : f_X6_moveTo v0 v1 Z I L Q2 := by
  unfold f_X6_moveTo at h1 ⊢
  exact hq _ _ _ kp h1
set_option maxHeartbeats 4000000 in
theorem loc_X8_has {P : Nat → Prop} {ZB : jZ} {IB : jI} {LB : jL} {v0 : Nat} {v1 : Int32} {Z : jZ} {I : jI} {L : jL} {Q1 Q2 : Int32 → jI → jL → Prop} (d14 : DN8 P ZB v0) (kp : KP P ZB IB LB Z I L) (h1 : f_X8_has v0 v1 Z I L Q1) (hq : ∀ (x0 : Int32) (x1 : jI) (x2 : jL), KP P ZB IB LB Z x1 x2 → Q1 x0 x1 x2 → Q2 x0 x1 x2) : f_X8_has v0 v1 Z I L Q2 := by
  unfold f_X8_has at h1 ⊢
  refine ⟨fun c => ?_, fun c => ?_⟩
  · have h1 := h1.1 c
    exact hq _ _ _ kp h1
  · have h1 := h1.2 c
    refine ⟨fun c => ?_, fun c => ?_⟩
    · have h1 := h1.1 c
      exact hq _ _ _ kp h1
    · have h1 := h1.2 c
      refine ⟨fun c => ?_, fun c => ?_⟩
      · have h1 := h1.1 c
        exact hq _ _ _ kp h1
      · have h1 := h1.2 c
        exact hq _ _ _ kp h1
set_option maxHeartbeats 4000000 in
theorem loc_X3_isTold {P : Nat → Prop} {ZB : jZ} {IB : jI} {LB : jL} {v0 : Nat} {Z : jZ} {I : jI} {L : jL} {Q1 Q2 : Int32 → jI → jL → Prop} (d15 : DN3 P ZB v0) (kp : KP P ZB IB LB Z I L) (h1 : f_X3_isTold v0 Z I L Q1) (hq : ∀ (x0 : Int32) (x1 : jI) (x2 : jL), KP P ZB IB LB Z x1 x2 → Q1 x0 x1 x2 → Q2 x0 x1 x2) : f_X3_isTold v0 Z I L Q2 := by
  unfold f_X3_isTold at h1 ⊢
  refine ⟨fun c => ?_, fun c => ?_⟩
  · have h1 := h1.1 c
    exact hq _ _ _ kp h1
  · have h1 := h1.2 c
    exact hq _ _ _ kp h1
set_option maxHeartbeats 4000000 in
theorem loc_X4_mainOf {P : Nat → Prop} {ZB : jZ} {IB : jI} {LB : jL} {v0 : Nat} {v1 : Int32} {Z : jZ} {I : jI} {L : jL} {Q1 Q2 : Int32 → jI → jL → Prop} (d29 : DN4 P ZB v0) (kp : KP P ZB IB LB Z I L) (h1 : f_X4_mainOf v0 v1 Z I L Q1) (hq : ∀ (x0 : Int32) (x1 : jI) (x2 : jL), KP P ZB IB LB Z x1 x2 → Q1 x0 x1 x2 → Q2 x0 x1 x2) : f_X4_mainOf v0 v1 Z I L Q2 := by
  unfold f_X4_mainOf at h1 ⊢
  refine ⟨fun c => ?_, fun c => ?_⟩
  · have h1 := h1.1 c
    exact hq _ _ _ kp h1
  · have h1 := h1.2 c
    refine ⟨fun c => ?_, fun c => ?_⟩
    · have h1 := h1.1 c
      exact hq _ _ _ kp h1
    · have h1 := h1.2 c
      intro b3 eb3
      have h1 := h1 b3 eb3
      have d30 := dn_4 d29 kp (by decide) eb3
      refine ⟨h1.1, ?_⟩
      have h1 := h1.2
      exact hq _ _ _ kp h1
set_option maxHeartbeats 4000000 in
theorem loc_X8_inFeud {P : Nat → Prop} {ZB : jZ} {IB : jI} {LB : jL} {v0 : Nat} {v1 : Int32} {v2 : Int32} {Z : jZ} {I : jI} {L : jL} {Q1 Q2 : Int32 → jI → jL → Prop} (d32 : DN8 P ZB v0) (kp : KP P ZB IB LB Z I L) (h1 : f_X8_inFeud v0 v1 v2 Z I L Q1) (hq : ∀ (x0 : Int32) (x1 : jI) (x2 : jL), KP P ZB IB LB Z x1 x2 → Q1 x0 x1 x2 → Q2 x0 x1 x2) : f_X8_inFeud v0 v1 v2 Z I L Q2 := by
  unfold f_X8_inFeud at h1 ⊢
  refine ⟨fun c => ?_, fun c => ?_⟩
  · have h1 := h1.1 c
    exact hq _ _ _ kp h1
  · have h1 := h1.2 c
    refine ⟨fun c => ?_, fun c => ?_⟩
    · have h1 := h1.1 c
      exact hq _ _ _ kp h1
    · have h1 := h1.2 c
      intro b3 eb3
      have h1 := h1 b3 eb3
      have d33 := dn_8 d32 kp (by decide) eb3
      refine ⟨h1.1, ?_⟩
      have h1 := h1.2
      refine ⟨fun c => ?_, fun c => ?_⟩
      · have h1 := h1.1 c
        exact hq _ _ _ kp h1
      · have h1 := h1.2 c
        exact hq _ _ _ kp h1
set_option maxHeartbeats 4000000 in
theorem loc_X8_putLetters {P : Nat → Prop} {ZB : jZ} {IB : jI} {LB : jL} {v0 : Nat} {v1 : Int32} {v2 : Int32} {v3 : Int32} {v4 : Int32} {Z : jZ} {I : jI} {L : jL} {Q1 Q2 : jI → jL → Prop} (d16 : DN8 P ZB v0) (kp : KP P ZB IB LB Z I L) (h1 : f_X8_putLetters v0 v1 v2 v3 v4 Z I L Q1) (hq : ∀ (x0 : jI) (x1 : jL), KP P ZB IB LB Z x0 x1 → Q1 x0 x1 → Q2 x0 x1) : f_X8_putLetters v0 v1 v2 v3 v4 Z I L Q2 := by
  unfold f_X8_putLetters at h1 ⊢
  refine loc_X8_has d16 kp h1 (fun r13 I9 L10 kp h1 => ?_)
  refine ⟨fun c => ?_, fun c => ?_⟩
  · have h1 := h1.1 c
    intro b15 eb15
    have h1 := h1 b15 eb15
    have d17 := dn_8 d16 kp (by decide) eb15
    intro b16 eb16
    have h1 := h1 b16 eb16
    have d18 := dn_8 d16 kp (by decide) eb16
    refine ⟨h1.1, ?_⟩
    have h1 := h1.2
    intro I18 eI18
    have h1 := h1 I18 eI18
    have kp := KP.wI kp d17 eI18
    intro b19 eb19
    have h1 := h1 b19 eb19
    have d19 := dn_8 d16 kp (by decide) eb19
    intro b20 eb20
    have h1 := h1 b20 eb20
    have d20 := dn_8 d16 kp (by decide) eb20
    refine ⟨h1.1, ?_⟩
    have h1 := h1.2
    intro I22 eI22
    have h1 := h1 I22 eI22
    have kp := KP.wI kp d19 eI22
    intro b23 eb23
    have h1 := h1 b23 eb23
    have d21 := dn_8 d16 kp (by decide) eb23
    intro b24 eb24
    have h1 := h1 b24 eb24
    have d22 := dn_8 d16 kp (by decide) eb24
    refine ⟨h1.1, ?_⟩
    have h1 := h1.2
    intro I26 eI26
    have h1 := h1 I26 eI26
    have kp := KP.wI kp d21 eI26
    intro b27 eb27
    have h1 := h1 b27 eb27
    have d23 := dn_8 d16 kp (by decide) eb27
    intro b28 eb28
    have h1 := h1 b28 eb28
    have d24 := dn_8 d16 kp (by decide) eb28
    refine ⟨h1.1, ?_⟩
    have h1 := h1.2
    intro I30 eI30
    have h1 := h1 I30 eI30
    have kp := KP.wI kp d23 eI30
    intro b31 eb31
    have h1 := h1 b31 eb31
    have d25 := dn_8 d16 kp (by decide) eb31
    refine loc_X8_has d16 kp h1 (fun r38 I34 L35 kp h1 => ?_)
    refine ⟨fun c => ?_, fun c => ?_⟩
    · have h1 := h1.1 c
      unfold f_X8_putLetters_b97 at h1 ⊢
      unfold f_X8_putLetters_b98 at h1 ⊢
      refine ⟨h1.1, ?_⟩
      have h1 := h1.2
      intro I2 eI2
      have h1 := h1 I2 eI2
      have kp := KP.wI kp d25 eI2
      intro b3 eb3
      have h1 := h1 b3 eb3
      have d26 := dn_8 d16 kp (by decide) eb3
      intro I4 eI4
      have h1 := h1 I4 eI4
      have kp := KP.wI kp d26 eI4
      intro b5 eb5
      have h1 := h1 b5 eb5
      have d27 := dn_8 d16 kp (by decide) eb5
      intro I6 eI6
      have h1 := h1 I6 eI6
      have kp := KP.wI kp d27 eI6
      exact hq _ _ kp h1
    · have h1 := h1.2 c
      intro b40 eb40
      have h1 := h1 b40 eb40
      have d28 := dn_8_4 d16 kp eb40
      refine loc_X4_mainOf d28 kp h1 (fun r47 I43 L44 kp h1 => ?_)
      intro b48 eb48
      have h1 := h1 b48 eb48
      have d31 := dn_8_4 d16 kp eb48
      refine loc_X4_mainOf d31 kp h1 (fun r55 I51 L52 kp h1 => ?_)
      refine loc_X8_inFeud d16 kp h1 (fun r62 I58 L59 kp h1 => ?_)
      refine ⟨fun c => ?_, fun c => ?_⟩
      · have h1 := h1.1 c
        unfold f_X8_putLetters_b97 at h1 ⊢
        unfold f_X8_putLetters_b98 at h1 ⊢
        refine ⟨h1.1, ?_⟩
        have h1 := h1.2
        intro I2 eI2
        have h1 := h1 I2 eI2
        have kp := KP.wI kp d25 eI2
        intro b3 eb3
        have h1 := h1 b3 eb3
        have d34 := dn_8 d16 kp (by decide) eb3
        intro I4 eI4
        have h1 := h1 I4 eI4
        have kp := KP.wI kp d34 eI4
        intro b5 eb5
        have h1 := h1 b5 eb5
        have d35 := dn_8 d16 kp (by decide) eb5
        intro I6 eI6
        have h1 := h1 I6 eI6
        have kp := KP.wI kp d35 eI6
        exact hq _ _ kp h1
      · have h1 := h1.2 c
        unfold f_X8_putLetters_b98 at h1 ⊢
        refine ⟨h1.1, ?_⟩
        have h1 := h1.2
        intro I2 eI2
        have h1 := h1 I2 eI2
        have kp := KP.wI kp d25 eI2
        intro b3 eb3
        have h1 := h1 b3 eb3
        have d36 := dn_8 d16 kp (by decide) eb3
        intro I4 eI4
        have h1 := h1 I4 eI4
        have kp := KP.wI kp d36 eI4
        intro b5 eb5
        have h1 := h1 b5 eb5
        have d37 := dn_8 d16 kp (by decide) eb5
        intro I6 eI6
        have h1 := h1 I6 eI6
        have kp := KP.wI kp d37 eI6
        exact hq _ _ kp h1
  · have h1 := h1.2 c
    exact hq _ _ kp h1
set_option maxHeartbeats 4000000 in
theorem loc_X3_join {P : Nat → Prop} {ZB : jZ} {IB : jI} {LB : jL} {v0 : Int32} {v1 : Int32} {v2 : Int32} {Z : jZ} {I : jI} {L : jL} {Q1 Q2 : Int32 → jI → jL → Prop} (kp : KP P ZB IB LB Z I L) (h1 : f_X3_join v0 v1 v2 Z I L Q1) (hq : ∀ (x0 : Int32) (x1 : jI) (x2 : jL), KP P ZB IB LB Z x1 x2 → Q1 x0 x1 x2 → Q2 x0 x1 x2) : f_X3_join v0 v1 v2 Z I L Q2 := by
  unfold f_X3_join at h1 ⊢
  refine ⟨fun c => ?_, fun c => ?_⟩
  · have h1 := h1.1 c
    exact hq _ _ _ kp h1
  · have h1 := h1.2 c
    refine ⟨fun c => ?_, fun c => ?_⟩
    · have h1 := h1.1 c
      exact hq _ _ _ kp h1
    · have h1 := h1.2 c
      refine ⟨fun c => ?_, fun c => ?_⟩
      · have h1 := h1.1 c
        exact hq _ _ _ kp h1
      · have h1 := h1.2 c
        refine ⟨fun c => ?_, fun c => ?_⟩
        · have h1 := h1.1 c
          refine ⟨fun c => ?_, fun c => ?_⟩
          · have h1 := h1.1 c
            exact hq _ _ _ kp h1
          · have h1 := h1.2 c
            exact hq _ _ _ kp h1
        · have h1 := h1.2 c
          refine ⟨fun c => ?_, fun c => ?_⟩
          · have h1 := h1.1 c
            refine ⟨fun c => ?_, fun c => ?_⟩
            · have h1 := h1.1 c
              exact hq _ _ _ kp h1
            · have h1 := h1.2 c
              exact hq _ _ _ kp h1
          · have h1 := h1.2 c
            refine ⟨fun c => ?_, fun c => ?_⟩
            · have h1 := h1.1 c
              refine ⟨fun c => ?_, fun c => ?_⟩
              · have h1 := h1.1 c
                exact hq _ _ _ kp h1
              · have h1 := h1.2 c
                exact hq _ _ _ kp h1
            · have h1 := h1.2 c
              refine ⟨fun c => ?_, fun c => ?_⟩
              · have h1 := h1.1 c
                refine ⟨h1.1, ?_⟩
                have h1 := h1.2
                exact hq _ _ _ kp h1
              · have h1 := h1.2 c
                exact hq _ _ _ kp h1
set_option maxHeartbeats 4000000 in
theorem loc_X3_priceFor_L4 {P : Nat → Prop} {ZB : jZ} {IB : jI} {LB : jL} {Z : jZ} {Q1 Q2 : Int32 → jI → jL → Prop} (hq : ∀ (x0 : Int32) (x1 : jI) (x2 : jL), KP P ZB IB LB Z x1 x2 → Q1 x0 x1 x2 → Q2 x0 x1 x2) : ∀ (n : Nat) (v0 : Nat) (v1 : Nat) (v2 : Int32) (v3 : Int32) (I : jI) (L : jL), DN3 P ZB v0 → ¬ P v1 → KP P ZB IB LB Z I L → f_X3_priceFor_L4 Z Q1 n v0 v1 v2 v3 I L → f_X3_priceFor_L4 Z Q2 n v0 v1 v2 v3 I L := by
  intro n
  induction n with
  | zero => intro v0 v1 v2 v3 I L d41 d42 kp h1; exact h1.elim
  | succ n ih =>
    intro v0 v1 v2 v3 I L d41 d42 kp h1
    unfold f_X3_priceFor_L4 at h1 ⊢
    refine ⟨fun c => ?_, fun c => ?_⟩
    · have h1 := h1.1 c
      unfold f_X3_priceFor_b156 at h1 ⊢
      refine ⟨fun c => ?_, fun c => ?_⟩
      · have h1 := h1.1 c
        intro b2 eb2
        have h1 := h1 b2 eb2
        have d43 := dn_3 d41 kp (by decide) eb2
        refine ⟨h1.1, ?_⟩
        have h1 := h1.2
        exact hq _ _ _ kp h1
      · have h1 := h1.2 c
        exact hq _ _ _ kp h1
    · have h1 := h1.2 c
      refine ⟨fun c => ?_, fun c => ?_⟩
      · have h1 := h1.1 c
        unfold f_X3_priceFor_b156 at h1 ⊢
        refine ⟨fun c => ?_, fun c => ?_⟩
        · have h1 := h1.1 c
          intro b2 eb2
          have h1 := h1 b2 eb2
          have d44 := dn_3 d41 kp (by decide) eb2
          refine ⟨h1.1, ?_⟩
          have h1 := h1.2
          exact hq _ _ _ kp h1
        · have h1 := h1.2 c
          exact hq _ _ _ kp h1
      · have h1 := h1.2 c
        intro b26 eb26
        have h1 := h1 b26 eb26
        have d45 := dn_3 d41 kp (by decide) eb26
        refine ⟨h1.1, ?_⟩
        have h1 := h1.2
        intro x28 ex28
        have h1 := h1 x28 ex28
        refine ⟨fun c => ?_, fun c => ?_⟩
        · have h1 := h1.1 c
          refine ⟨fun c => ?_, fun c => ?_⟩
          · have h1 := h1.1 c
            unfold f_X3_priceFor_b111 at h1 ⊢
            refine ⟨fun c => ?_, fun c => ?_⟩
            · have h1 := h1.1 c
              unfold f_X3_priceFor_b150 at h1 ⊢
              intro x4 ex4
              have h1 := h1 x4 ex4
              exact ih _ _ _ _ _ _ d41 d42 kp h1
            · have h1 := h1.2 c
              intro x6 ex6
              have h1 := h1 x6 ex6
              intro b7 eb7
              have h1 := h1 b7 eb7
              have d46 := dn_3 d41 kp (by decide) eb7
              intro b8 eb8
              have h1 := h1 b8 eb8
              have d47 := dn_3 d41 kp (by decide) eb8
              refine ⟨h1.1, ?_⟩
              have h1 := h1.2
              intro b10 eb10
              have h1 := h1 b10 eb10
              have d48 := dn_3 d41 kp (by decide) eb10
              refine ⟨h1.1, ?_⟩
              have h1 := h1.2
              refine loc_X3_join  kp h1 (fun r18 I14 L15 kp h1 => ?_)
              refine ⟨h1.1, ?_⟩
              have h1 := h1.2
              intro I20 eI20
              have h1 := h1 I20 eI20
              have kp := KP.wI kp d46 eI20
              unfold f_X3_priceFor_b150 at h1 ⊢
              intro x4 ex4
              have h1 := h1 x4 ex4
              exact ih _ _ _ _ _ _ d41 d42 kp h1
          · have h1 := h1.2 c
            refine ⟨fun c => ?_, fun c => ?_⟩
            · have h1 := h1.1 c
              unfold f_X3_priceFor_b111 at h1 ⊢
              refine ⟨fun c => ?_, fun c => ?_⟩
              · have h1 := h1.1 c
                unfold f_X3_priceFor_b150 at h1 ⊢
                intro x4 ex4
                have h1 := h1 x4 ex4
                exact ih _ _ _ _ _ _ d41 d42 kp h1
              · have h1 := h1.2 c
                intro x6 ex6
                have h1 := h1 x6 ex6
                intro b7 eb7
                have h1 := h1 b7 eb7
                have d49 := dn_3 d41 kp (by decide) eb7
                intro b8 eb8
                have h1 := h1 b8 eb8
                have d50 := dn_3 d41 kp (by decide) eb8
                refine ⟨h1.1, ?_⟩
                have h1 := h1.2
                intro b10 eb10
                have h1 := h1 b10 eb10
                have d51 := dn_3 d41 kp (by decide) eb10
                refine ⟨h1.1, ?_⟩
                have h1 := h1.2
                refine loc_X3_join  kp h1 (fun r18 I14 L15 kp h1 => ?_)
                refine ⟨h1.1, ?_⟩
                have h1 := h1.2
                intro I20 eI20
                have h1 := h1 I20 eI20
                have kp := KP.wI kp d49 eI20
                unfold f_X3_priceFor_b150 at h1 ⊢
                intro x4 ex4
                have h1 := h1 x4 ex4
                exact ih _ _ _ _ _ _ d41 d42 kp h1
            · have h1 := h1.2 c
              intro b32 eb32
              have h1 := h1 b32 eb32
              have d52 := dn_3 d41 kp (by decide) eb32
              intro b33 eb33
              have h1 := h1 b33 eb33
              have d53 := dn_3 d41 kp (by decide) eb33
              refine ⟨h1.1, ?_⟩
              have h1 := h1.2
              refine ⟨h1.1, ?_⟩
              have h1 := h1.2
              intro I36 eI36
              have h1 := h1 I36 eI36
              have kp := KP.wI kp d52 eI36
              unfold f_X3_priceFor_b150 at h1 ⊢
              intro x4 ex4
              have h1 := h1 x4 ex4
              exact ih _ _ _ _ _ _ d41 d42 kp h1
        · have h1 := h1.2 c
          intro x37 ex37
          have h1 := h1 x37 ex37
          intro b38 eb38
          have h1 := h1 b38 eb38
          have d54 := dn_3 d41 kp (by decide) eb38
          refine ⟨fun c => ?_, fun c => ?_⟩
          · have h1 := h1.1 c
            refine ⟨fun c => ?_, fun c => ?_⟩
            · have h1 := h1.1 c
              unfold f_X3_priceFor_b72 at h1 ⊢
              refine ⟨h1.1, ?_⟩
              have h1 := h1.2
              intro I22 eI22
              have h1 := h1 I22 eI22
              have kp := KP.wI kp d54 eI22
              intro x23 ex23
              have h1 := h1 x23 ex23
              unfold f_X3_priceFor_b150 at h1 ⊢
              intro x4 ex4
              have h1 := h1 x4 ex4
              exact ih _ _ _ _ _ _ d41 d42 kp h1
            · have h1 := h1.2 c
              refine ⟨h1.1, ?_⟩
              have h1 := h1.2
              unfold f_X3_priceFor_b72 at h1 ⊢
              refine ⟨h1.1, ?_⟩
              have h1 := h1.2
              intro I22 eI22
              have h1 := h1 I22 eI22
              have kp := KP.wI kp d54 eI22
              intro x23 ex23
              have h1 := h1 x23 ex23
              unfold f_X3_priceFor_b150 at h1 ⊢
              intro x4 ex4
              have h1 := h1 x4 ex4
              exact ih _ _ _ _ _ _ d41 d42 kp h1
          · have h1 := h1.2 c
            unfold f_X3_priceFor_b72 at h1 ⊢
            refine ⟨h1.1, ?_⟩
            have h1 := h1.2
            intro I22 eI22
            have h1 := h1 I22 eI22
            have kp := KP.wI kp d54 eI22
            intro x23 ex23
            have h1 := h1 x23 ex23
            unfold f_X3_priceFor_b150 at h1 ⊢
            intro x4 ex4
            have h1 := h1 x4 ex4
            exact ih _ _ _ _ _ _ d41 d42 kp h1
set_option maxHeartbeats 4000000 in
theorem loc_X3_priceFor {P : Nat → Prop} {ZB : jZ} {IB : jI} {LB : jL} {v0 : Nat} {v1 : Nat} {Z : jZ} {I : jI} {L : jL} {Q1 Q2 : Int32 → jI → jL → Prop} (d39 : DN3 P ZB v0) (d40 : ¬ P v1) (kp : KP P ZB IB LB Z I L) (h1 : f_X3_priceFor v0 v1 Z I L Q1) (hq : ∀ (x0 : Int32) (x1 : jI) (x2 : jL), KP P ZB IB LB Z x1 x2 → Q1 x0 x1 x2 → Q2 x0 x1 x2) : f_X3_priceFor v0 v1 Z I L Q2 := by
  unfold f_X3_priceFor at h1 ⊢
  obtain ⟨n1, h1⟩ := h1
  exact ⟨n1, loc_X3_priceFor_L4  hq n1 _ _ _ _ _ _ d39 d40 kp h1⟩
set_option maxHeartbeats 4000000 in
theorem loc_X8_priceOf {P : Nat → Prop} {ZB : jZ} {IB : jI} {LB : jL} {v0 : Nat} {v1 : Int32} {v2 : Int32} {v3 : Int32} {v4 : Int32} {v5 : Int32} {Z : jZ} {I : jI} {L : jL} {Q1 Q2 : Int32 → jI → jL → Prop} (d12 : DN8 P ZB v0) (kp : KP P ZB IB LB Z I L) (h1 : f_X8_priceOf v0 v1 v2 v3 v4 v5 Z I L Q1) (hq : ∀ (x0 : Int32) (x1 : jI) (x2 : jL), KP P ZB IB LB Z x1 x2 → Q1 x0 x1 x2 → Q2 x0 x1 x2) : f_X8_priceOf v0 v1 v2 v3 v4 v5 Z I L Q2 := by
  unfold f_X8_priceOf at h1 ⊢
  refine ⟨fun c => ?_, fun c => ?_⟩
  · have h1 := h1.1 c
    intro b38 eb38
    have h1 := h1 b38 eb38
    have d13 := dn_8_3 d12 kp (by decide) eb38
    unfold f_X8_priceOf_b15 at h1 ⊢
    refine loc_X8_has d12 kp h1 (fun r7 I3 L4 kp h1 => ?_)
    refine ⟨fun c => ?_, fun c => ?_⟩
    · have h1 := h1.1 c
      refine loc_X3_isTold d13 kp h1 (fun r15 I11 L12 kp h1 => ?_)
      refine ⟨fun c => ?_, fun c => ?_⟩
      · have h1 := h1.1 c
        refine loc_X8_putLetters d12 kp h1 (fun I19 L20 kp h1 => ?_)
        intro b23 eb23
        have h1 := h1 b23 eb23
        have d38 := dn_8 d12 kp (by decide) eb23
        refine loc_X3_priceFor d13 d38 kp h1 (fun r30 I26 L27 kp h1 => ?_)
        exact hq _ _ _ kp h1
      · have h1 := h1.2 c
        refine ⟨fun c => ?_, fun c => ?_⟩
        · have h1 := h1.1 c
          exact hq _ _ _ kp h1
        · have h1 := h1.2 c
          intro b32 eb32
          have h1 := h1 b32 eb32
          have d55 := dn_8 d12 kp (by decide) eb32
          refine ⟨h1.1, ?_⟩
          have h1 := h1.2
          refine ⟨fun c => ?_, fun c => ?_⟩
          · have h1 := h1.1 c
            exact hq _ _ _ kp h1
          · have h1 := h1.2 c
            intro b35 eb35
            have h1 := h1 b35 eb35
            have d56 := dn_8 d12 kp (by decide) eb35
            refine ⟨h1.1, ?_⟩
            have h1 := h1.2
            exact hq _ _ _ kp h1
    · have h1 := h1.2 c
      exact hq _ _ _ kp h1
  · have h1 := h1.2 c
    intro b39 eb39
    have h1 := h1 b39 eb39
    have d57 := dn_8_3 d12 kp (by decide) eb39
    unfold f_X8_priceOf_b15 at h1 ⊢
    refine loc_X8_has d12 kp h1 (fun r7 I3 L4 kp h1 => ?_)
    refine ⟨fun c => ?_, fun c => ?_⟩
    · have h1 := h1.1 c
      refine loc_X3_isTold d57 kp h1 (fun r15 I11 L12 kp h1 => ?_)
      refine ⟨fun c => ?_, fun c => ?_⟩
      · have h1 := h1.1 c
        refine loc_X8_putLetters d12 kp h1 (fun I19 L20 kp h1 => ?_)
        intro b23 eb23
        have h1 := h1 b23 eb23
        have d58 := dn_8 d12 kp (by decide) eb23
        refine loc_X3_priceFor d57 d58 kp h1 (fun r30 I26 L27 kp h1 => ?_)
        exact hq _ _ _ kp h1
      · have h1 := h1.2 c
        refine ⟨fun c => ?_, fun c => ?_⟩
        · have h1 := h1.1 c
          exact hq _ _ _ kp h1
        · have h1 := h1.2 c
          intro b32 eb32
          have h1 := h1 b32 eb32
          have d59 := dn_8 d12 kp (by decide) eb32
          refine ⟨h1.1, ?_⟩
          have h1 := h1.2
          refine ⟨fun c => ?_, fun c => ?_⟩
          · have h1 := h1.1 c
            exact hq _ _ _ kp h1
          · have h1 := h1.2 c
            intro b35 eb35
            have h1 := h1 b35 eb35
            have d60 := dn_8 d12 kp (by decide) eb35
            refine ⟨h1.1, ?_⟩
            have h1 := h1.2
            exact hq _ _ _ kp h1
    · have h1 := h1.2 c
      exact hq _ _ _ kp h1
set_option maxHeartbeats 4000000 in
theorem loc_X8_costOfMove_L24 {P : Nat → Prop} {ZB : jZ} {IB : jI} {LB : jL} {Z : jZ} {Q1 Q2 : Int32 → jI → jL → Prop} (hq : ∀ (x0 : Int32) (x1 : jI) (x2 : jL), KP P ZB IB LB Z x1 x2 → Q1 x0 x1 x2 → Q2 x0 x1 x2) : ∀ (n : Nat) (v0 : Nat) (v1 : Int32) (v2 : Int32) (v3 : Int32) (v4 : Int32) (v5 : Int32) (v6 : Int32) (I : jI) (L : jL), DN8 P ZB v0 → KP P ZB IB LB Z I L → f_X8_costOfMove_L24 Z Q1 n v0 v1 v2 v3 v4 v5 v6 I L → f_X8_costOfMove_L24 Z Q2 n v0 v1 v2 v3 v4 v5 v6 I L := by
  intro n
  induction n with
  | zero => intro v0 v1 v2 v3 v4 v5 v6 I L d61 kp h1; exact h1.elim
  | succ n ih =>
    intro v0 v1 v2 v3 v4 v5 v6 I L d61 kp h1
    unfold f_X8_costOfMove_L24 at h1 ⊢
    refine ⟨fun c => ?_, fun c => ?_⟩
    · have h1 := h1.1 c
      exact hq _ _ _ kp h1
    · have h1 := h1.2 c
      refine loc_X8_priceOf d61 kp h1 (fun r8 I4 L5 kp h1 => ?_)
      intro x9 ex9
      have h1 := h1 x9 ex9
      intro x10 ex10
      have h1 := h1 x10 ex10
      exact ih _ _ _ _ _ _ _ _ _ d61 kp h1
set_option maxHeartbeats 4000000 in
theorem loc_X8_costOfMove {P : Nat → Prop} {ZB : jZ} {IB : jI} {LB : jL} {v0 : Nat} {v1 : Int32} {v2 : Int32} {v3 : Int32} {Z : jZ} {I : jI} {L : jL} {Q1 Q2 : Int32 → jI → jL → Prop} (d11 : DN8 P ZB v0) (kp : KP P ZB IB LB Z I L) (h1 : f_X8_costOfMove v0 v1 v2 v3 Z I L Q1) (hq : ∀ (x0 : Int32) (x1 : jI) (x2 : jL), KP P ZB IB LB Z x1 x2 → Q1 x0 x1 x2 → Q2 x0 x1 x2) : f_X8_costOfMove v0 v1 v2 v3 Z I L Q2 := by
  unfold f_X8_costOfMove at h1 ⊢
  intro x11 ex11
  have h1 := h1 x11 ex11
  refine loc_X8_priceOf d11 kp h1 (fun r18 I14 L15 kp h1 => ?_)
  intro x19 ex19
  have h1 := h1 x19 ex19
  obtain ⟨n1, h1⟩ := h1
  exact ⟨n1, loc_X8_costOfMove_L24  hq n1 _ _ _ _ _ _ _ _ _ d11 kp h1⟩
set_option maxHeartbeats 4000000 in
theorem loc_X8_effortOfMove_L8 {P : Nat → Prop} {ZB : jZ} {IB : jI} {LB : jL} {Z : jZ} {Q1 Q2 : Int32 → jI → jL → Prop} (hq : ∀ (x0 : Int32) (x1 : jI) (x2 : jL), KP P ZB IB LB Z x1 x2 → Q1 x0 x1 x2 → Q2 x0 x1 x2) : ∀ (n : Nat) (v0 : Nat) (v1 : Int32) (v2 : Int32) (v3 : Int32) (v4 : Int32) (v5 : Int32) (I : jI) (L : jL), DN8 P ZB v0 → KP P ZB IB LB Z I L → f_X8_effortOfMove_L8 Z Q1 n v0 v1 v2 v3 v4 v5 I L → f_X8_effortOfMove_L8 Z Q2 n v0 v1 v2 v3 v4 v5 I L := by
  intro n
  induction n with
  | zero => intro v0 v1 v2 v3 v4 v5 I L d65 kp h1; exact h1.elim
  | succ n ih =>
    intro v0 v1 v2 v3 v4 v5 I L d65 kp h1
    unfold f_X8_effortOfMove_L8 at h1 ⊢
    refine ⟨fun c => ?_, fun c => ?_⟩
    · have h1 := h1.1 c
      refine loc_X8_has d65 kp h1 (fun r10 I6 L7 kp h1 => ?_)
      refine ⟨fun c => ?_, fun c => ?_⟩
      · have h1 := h1.1 c
        unfold f_X8_effortOfMove_b66 at h1 ⊢
        exact hq _ _ _ kp h1
      · have h1 := h1.2 c
        intro b12 eb12
        have h1 := h1 b12 eb12
        have d66 := dn_8 d65 kp (by decide) eb12
        refine ⟨h1.1, ?_⟩
        have h1 := h1.2
        unfold f_X8_effortOfMove_b66 at h1 ⊢
        exact hq _ _ _ kp h1
    · have h1 := h1.2 c
      refine loc_X8_has d65 kp h1 (fun r20 I16 L17 kp h1 => ?_)
      refine ⟨fun c => ?_, fun c => ?_⟩
      · have h1 := h1.1 c
        unfold f_X8_effortOfMove_b36 at h1 ⊢
        intro x1 ex1
        have h1 := h1 x1 ex1
        intro x2 ex2
        have h1 := h1 x2 ex2
        exact ih _ _ _ _ _ _ _ _ d65 kp h1
      · have h1 := h1.2 c
        intro b22 eb22
        have h1 := h1 b22 eb22
        have d67 := dn_8 d65 kp (by decide) eb22
        refine ⟨h1.1, ?_⟩
        have h1 := h1.2
        unfold f_X8_effortOfMove_b36 at h1 ⊢
        intro x1 ex1
        have h1 := h1 x1 ex1
        intro x2 ex2
        have h1 := h1 x2 ex2
        exact ih _ _ _ _ _ _ _ _ d65 kp h1
set_option maxHeartbeats 4000000 in
theorem loc_X8_effortOfMove {P : Nat → Prop} {ZB : jZ} {IB : jI} {LB : jL} {v0 : Nat} {v1 : Int32} {v2 : Int32} {v3 : Int32} {Z : jZ} {I : jI} {L : jL} {Q1 Q2 : Int32 → jI → jL → Prop} (d64 : DN8 P ZB v0) (kp : KP P ZB IB LB Z I L) (h1 : f_X8_effortOfMove v0 v1 v2 v3 Z I L Q1) (hq : ∀ (x0 : Int32) (x1 : jI) (x2 : jL), KP P ZB IB LB Z x1 x2 → Q1 x0 x1 x2 → Q2 x0 x1 x2) : f_X8_effortOfMove v0 v1 v2 v3 Z I L Q2 := by
  unfold f_X8_effortOfMove at h1 ⊢
  intro x24 ex24
  have h1 := h1 x24 ex24
  obtain ⟨n1, h1⟩ := h1
  exact ⟨n1, loc_X8_effortOfMove_L8  hq n1 _ _ _ _ _ _ _ _ d64 kp h1⟩
set_option maxHeartbeats 4000000 in
theorem loc_X6_measure_L22 {P : Nat → Prop} {ZB : jZ} {IB : jI} {LB : jL} {Z : jZ} {K6 K6b : Nat → Int32 → Int32 → jI → jL → Prop} {Q1 Q2 : jI → jL → Prop} (hK6 : ∀ (x0 : Nat) (x1 : Int32) (x2 : Int32) (x3 : jI) (x4 : jL), DN6 P ZB x0 → KP P ZB IB LB Z x3 x4 → K6 x0 x1 x2 x3 x4 → K6b x0 x1 x2 x3 x4) (hq : ∀ (x0 : jI) (x1 : jL), KP P ZB IB LB Z x0 x1 → Q1 x0 x1 → Q2 x0 x1) : ∀ (n : Nat) (v0 : Nat) (v2 : Int32) (v3 : Int32) (v4 : Int32) (I : jI) (L : jL), DN6 P ZB v0 → KP P ZB IB LB Z I L → f_X6_measure_L22 K6 Z Q1 n v0 v2 v3 v4 I L → f_X6_measure_L22 K6b Z Q2 n v0 v2 v3 v4 I L := by
  intro n
  induction n with
  | zero => intro v0 v2 v3 v4 I L d7 kp h1; exact h1.elim
  | succ n ih =>
    intro v0 v2 v3 v4 I L d7 kp h1
    unfold f_X6_measure_L22 at h1 ⊢
    refine ⟨fun c => ?_, fun c => ?_⟩
    · have h1 := h1.1 c
      unfold f_X6_measure_b114 at h1 ⊢
      intro x1 ex1
      have h1 := h1 x1 ex1
      exact hK6 _ _ _ _ _ d7 kp h1
    · have h1 := h1.2 c
      refine ⟨fun c => ?_, fun c => ?_⟩
      · have h1 := h1.1 c
        unfold f_X6_measure_b114 at h1 ⊢
        intro x1 ex1
        have h1 := h1 x1 ex1
        exact hK6 _ _ _ _ _ d7 kp h1
      · have h1 := h1.2 c
        intro b4 eb4
        have h1 := h1 b4 eb4
        have d8 := dn_6 d7 kp (by decide) eb4
        refine ⟨h1.1, ?_⟩
        have h1 := h1.2
        refine ⟨fun c => ?_, fun c => ?_⟩
        · have h1 := h1.1 c
          unfold f_X6_measure_b114 at h1 ⊢
          intro x1 ex1
          have h1 := h1 x1 ex1
          exact hK6 _ _ _ _ _ d7 kp h1
        · have h1 := h1.2 c
          refine loc_X6_moveTo  kp h1 (fun r13 I9 L10 kp h1 => ?_)
          intro b14 eb14
          have h1 := h1 b14 eb14
          have d9 := dn_6 d7 kp (by decide) eb14
          intro b15 eb15
          have h1 := h1 b15 eb15
          have d10 := dn_6_8 d7 kp eb15
          refine loc_X8_costOfMove d10 kp h1 (fun r22 I18 L19 kp h1 => ?_)
          refine ⟨h1.1, ?_⟩
          have h1 := h1.2
          intro I24 eI24
          have h1 := h1 I24 eI24
          have kp := KP.wI kp d9 eI24
          intro b25 eb25
          have h1 := h1 b25 eb25
          have d62 := dn_6 d7 kp (by decide) eb25
          intro b26 eb26
          have h1 := h1 b26 eb26
          have d63 := dn_6_8 d7 kp eb26
          refine loc_X8_effortOfMove d63 kp h1 (fun r33 I29 L30 kp h1 => ?_)
          refine ⟨h1.1, ?_⟩
          have h1 := h1.2
          intro I35 eI35
          have h1 := h1 I35 eI35
          have kp := KP.wI kp d62 eI35
          intro x36 ex36
          have h1 := h1 x36 ex36
          exact ih _ _ _ _ _ _ d7 kp h1
set_option maxHeartbeats 4000000 in
theorem loc_X6_measure_L6 {P : Nat → Prop} {ZB : jZ} {IB : jI} {LB : jL} {Z : jZ} {Q1 Q2 : jI → jL → Prop} (hq : ∀ (x0 : jI) (x1 : jL), KP P ZB IB LB Z x0 x1 → Q1 x0 x1 → Q2 x0 x1) : ∀ (n : Nat) (v0 : Nat) (v2 : Int32) (v3 : Int32) (I : jI) (L : jL), DN6 P ZB v0 → KP P ZB IB LB Z I L → f_X6_measure_L6 Z Q1 n v0 v2 v3 I L → f_X6_measure_L6 Z Q2 n v0 v2 v3 I L := by
  intro n
  induction n with
  | zero => intro v0 v2 v3 I L d6 kp h1; exact h1.elim
  | succ n ih =>
    intro v0 v2 v3 I L d6 kp h1
    unfold f_X6_measure_L6 at h1 ⊢
    refine ⟨fun c => ?_, fun c => ?_⟩
    · have h1 := h1.1 c
      exact hq _ _ kp h1
    · have h1 := h1.2 c
      refine ⟨fun c => ?_, fun c => ?_⟩
      · have h1 := h1.1 c
        exact hq _ _ kp h1
      · have h1 := h1.2 c
        obtain ⟨n1, h1⟩ := h1
        exact ⟨n1, loc_X6_measure_L22 (fun _ _ _ _ _ g0 kp h => ih _ _ _ _ _ g0 kp h) hq n1 _ _ _ _ _ _ d6 kp h1⟩
set_option maxHeartbeats 4000000 in
theorem loc_X6_measure {P : Nat → Prop} {ZB : jZ} {IB : jI} {LB : jL} {v0 : Nat} {v1 : Int32} {v2 : Int32} {Z : jZ} {I : jI} {L : jL} {Q1 Q2 : jI → jL → Prop} (d5 : DN6 P ZB v0) (kp : KP P ZB IB LB Z I L) (h1 : f_X6_measure v0 v1 v2 Z I L Q1) (hq : ∀ (x0 : jI) (x1 : jL), KP P ZB IB LB Z x0 x1 → Q1 x0 x1 → Q2 x0 x1) : f_X6_measure v0 v1 v2 Z I L Q2 := by
  unfold f_X6_measure at h1 ⊢
  intro x40 ex40
  have h1 := h1 x40 ex40
  obtain ⟨n1, h1⟩ := h1
  exact ⟨n1, loc_X6_measure_L6  hq n1 _ _ _ _ _ d5 kp h1⟩
set_option maxHeartbeats 4000000 in
theorem loc_X6_leastEffortUp_L26 {P : Nat → Prop} {ZB : jZ} {IB : jI} {LB : jL} {Z : jZ} {Q1 Q2 : Int32 → jI → jL → Prop} (hq : ∀ (x0 : Int32) (x1 : jI) (x2 : jL), KP P ZB IB LB Z x1 x2 → Q1 x0 x1 x2 → Q2 x0 x1 x2) : ∀ (n : Nat) (v0 : Nat) (v1 : Int32) (v2 : Int32) (v3 : Int32) (I : jI) (L : jL), DN6 P ZB v0 → KP P ZB IB LB Z I L → f_X6_leastEffortUp_L26 Z Q1 n v0 v1 v2 v3 I L → f_X6_leastEffortUp_L26 Z Q2 n v0 v1 v2 v3 I L := by
  intro n
  induction n with
  | zero => intro v0 v1 v2 v3 I L d71 kp h1; exact h1.elim
  | succ n ih =>
    intro v0 v1 v2 v3 I L d71 kp h1
    unfold f_X6_leastEffortUp_L26 at h1 ⊢
    refine ⟨fun c => ?_, fun c => ?_⟩
    · have h1 := h1.1 c
      exact hq _ _ _ kp h1
    · have h1 := h1.2 c
      refine ⟨fun c => ?_, fun c => ?_⟩
      · have h1 := h1.1 c
        exact hq _ _ _ kp h1
      · have h1 := h1.2 c
        intro b4 eb4
        have h1 := h1 b4 eb4
        have d72 := dn_6 d71 kp (by decide) eb4
        refine ⟨h1.1, ?_⟩
        have h1 := h1.2
        refine ⟨fun c => ?_, fun c => ?_⟩
        · have h1 := h1.1 c
          unfold f_X6_leastEffortUp_b90 at h1 ⊢
          intro x1 ex1
          have h1 := h1 x1 ex1
          exact ih _ _ _ _ _ _ d71 kp h1
        · have h1 := h1.2 c
          intro b7 eb7
          have h1 := h1 b7 eb7
          have d73 := dn_6 d71 kp (by decide) eb7
          refine ⟨h1.1, ?_⟩
          have h1 := h1.2
          refine ⟨fun c => ?_, fun c => ?_⟩
          · have h1 := h1.1 c
            unfold f_X6_leastEffortUp_b90 at h1 ⊢
            intro x1 ex1
            have h1 := h1 x1 ex1
            exact ih _ _ _ _ _ _ d71 kp h1
          · have h1 := h1.2 c
            intro b10 eb10
            have h1 := h1 b10 eb10
            have d74 := dn_6 d71 kp (by decide) eb10
            refine loc_X6_moveTo  kp h1 (fun r17 I13 L14 kp h1 => ?_)
            refine ⟨h1.1, ?_⟩
            have h1 := h1.2
            intro b19 eb19
            have h1 := h1 b19 eb19
            have d75 := dn_6 d71 kp (by decide) eb19
            refine ⟨h1.1, ?_⟩
            have h1 := h1.2
            intro x21 ex21
            have h1 := h1 x21 ex21
            unfold f_X6_leastEffortUp_b90 at h1 ⊢
            intro x1 ex1
            have h1 := h1 x1 ex1
            exact ih _ _ _ _ _ _ d71 kp h1
set_option maxHeartbeats 4000000 in
theorem loc_X6_leastEffortUp {P : Nat → Prop} {ZB : jZ} {IB : jI} {LB : jL} {v0 : Nat} {v1 : Int32} {Z : jZ} {I : jI} {L : jL} {Q1 Q2 : Int32 → jI → jL → Prop} (d70 : DN6 P ZB v0) (kp : KP P ZB IB LB Z I L) (h1 : f_X6_leastEffortUp v0 v1 Z I L Q1) (hq : ∀ (x0 : Int32) (x1 : jI) (x2 : jL), KP P ZB IB LB Z x1 x2 → Q1 x0 x1 x2 → Q2 x0 x1 x2) : f_X6_leastEffortUp v0 v1 Z I L Q2 := by
  unfold f_X6_leastEffortUp at h1 ⊢
  refine ⟨fun c => ?_, fun c => ?_⟩
  · have h1 := h1.1 c
    unfold f_X6_leastEffortUp_b21 at h1 ⊢
    unfold f_X6_leastEffortUp_b23 at h1 ⊢
    obtain ⟨n1, h1⟩ := h1
    exact ⟨n1, loc_X6_leastEffortUp_L26  hq n1 _ _ _ _ _ _ d70 kp h1⟩
  · have h1 := h1.2 c
    intro b24 eb24
    have h1 := h1 b24 eb24
    have d76 := dn_6 d70 kp (by decide) eb24
    refine ⟨h1.1, ?_⟩
    have h1 := h1.2
    refine ⟨fun c => ?_, fun c => ?_⟩
    · have h1 := h1.1 c
      unfold f_X6_leastEffortUp_b21 at h1 ⊢
      unfold f_X6_leastEffortUp_b23 at h1 ⊢
      obtain ⟨n1, h1⟩ := h1
      exact ⟨n1, loc_X6_leastEffortUp_L26  hq n1 _ _ _ _ _ _ d70 kp h1⟩
    · have h1 := h1.2 c
      unfold f_X6_leastEffortUp_b23 at h1 ⊢
      obtain ⟨n1, h1⟩ := h1
      exact ⟨n1, loc_X6_leastEffortUp_L26  hq n1 _ _ _ _ _ _ d70 kp h1⟩
set_option maxHeartbeats 4000000 in
theorem loc_X6_lay_L104 {P : Nat → Prop} {ZB : jZ} {IB : jI} {LB : jL} {Z : jZ} {Q1 Q2 : jI → jL → Prop} (hq : ∀ (x0 : jI) (x1 : jL), KP P ZB IB LB Z x0 x1 → Q1 x0 x1 → Q2 x0 x1) : ∀ (n : Nat) (v0 : Nat) (v4 : Int32) (I : jI) (L : jL), DN6 P ZB v0 → KP P ZB IB LB Z I L → f_X6_lay_L104 Z Q1 n v0 v4 I L → f_X6_lay_L104 Z Q2 n v0 v4 I L := by
  intro n
  induction n with
  | zero => intro v0 v4 I L d68 kp h1; exact h1.elim
  | succ n ih =>
    intro v0 v4 I L d68 kp h1
    unfold f_X6_lay_L104 at h1 ⊢
    refine ⟨fun c => ?_, fun c => ?_⟩
    · have h1 := h1.1 c
      exact hq _ _ kp h1
    · have h1 := h1.2 c
      intro b2 eb2
      have h1 := h1 b2 eb2
      have d69 := dn_6 d68 kp (by decide) eb2
      refine loc_X6_leastEffortUp d68 kp h1 (fun r9 I5 L6 kp h1 => ?_)
      refine ⟨h1.1, ?_⟩
      have h1 := h1.2
      intro I11 eI11
      have h1 := h1 I11 eI11
      have kp := KP.wI kp d69 eI11
      intro x12 ex12
      have h1 := h1 x12 ex12
      exact ih _ _ _ _ d68 kp h1
set_option maxHeartbeats 4000000 in
theorem loc_X6_lay_L31 {P : Nat → Prop} {ZB : jZ} {IB : jI} {LB : jL} {Z : jZ} {Q1 Q2 : jI → jL → Prop} (hq : ∀ (x0 : jI) (x1 : jL), KP P ZB IB LB Z x0 x1 → Q1 x0 x1 → Q2 x0 x1) : ∀ (n : Nat) (v0 : Nat) (v2 : Int32) (v3 : Int32) (v4 : Int32) (I : jI) (L : jL), DN6 P ZB v0 → KP P ZB IB LB Z I L → f_X6_lay_L31 Z Q1 n v0 v2 v3 v4 I L → f_X6_lay_L31 Z Q2 n v0 v2 v3 v4 I L := by
  intro n
  induction n with
  | zero => intro v0 v2 v3 v4 I L d4 kp h1; exact h1.elim
  | succ n ih =>
    intro v0 v2 v3 v4 I L d4 kp h1
    unfold f_X6_lay_L31 at h1 ⊢
    refine ⟨fun c => ?_, fun c => ?_⟩
    · have h1 := h1.1 c
      refine loc_X6_measure d4 kp h1 (fun I19 L20 kp h1 => ?_)
      intro x23 ex23
      have h1 := h1 x23 ex23
      obtain ⟨n1, h1⟩ := h1
      exact ⟨n1, loc_X6_lay_L104  hq n1 _ _ _ _ d4 kp h1⟩
    · have h1 := h1.2 c
      intro x25 ex25
      have h1 := h1 x25 ex25
      intro b26 eb26
      have h1 := h1 b26 eb26
      have d77 := dn_6 d4 kp (by decide) eb26
      refine ⟨fun c => ?_, fun c => ?_⟩
      · have h1 := h1.1 c
        unfold f_X6_lay_b81 at h1 ⊢
        unfold f_X6_lay_b82 at h1 ⊢
        refine ⟨h1.1, ?_⟩
        have h1 := h1.2
        intro I14 eI14
        have h1 := h1 I14 eI14
        have kp := KP.wI kp d77 eI14
        intro x15 ex15
        have h1 := h1 x15 ex15
        exact ih _ _ _ _ _ _ d4 kp h1
      · have h1 := h1.2 c
        intro b28 eb28
        have h1 := h1 b28 eb28
        have d78 := dn_6_8 d4 kp eb28
        intro b29 eb29
        have h1 := h1 b29 eb29
        have d79 := dn_8_4 d78 kp eb29
        refine loc_X4_mainOf d79 kp h1 (fun r36 I32 L33 kp h1 => ?_)
        refine ⟨fun c => ?_, fun c => ?_⟩
        · have h1 := h1.1 c
          unfold f_X6_lay_b81 at h1 ⊢
          unfold f_X6_lay_b82 at h1 ⊢
          refine ⟨h1.1, ?_⟩
          have h1 := h1.2
          intro I14 eI14
          have h1 := h1 I14 eI14
          have kp := KP.wI kp d77 eI14
          intro x15 ex15
          have h1 := h1 x15 ex15
          exact ih _ _ _ _ _ _ d4 kp h1
        · have h1 := h1.2 c
          unfold f_X6_lay_b82 at h1 ⊢
          refine ⟨h1.1, ?_⟩
          have h1 := h1.2
          intro I14 eI14
          have h1 := h1 I14 eI14
          have kp := KP.wI kp d77 eI14
          intro x15 ex15
          have h1 := h1 x15 ex15
          exact ih _ _ _ _ _ _ d4 kp h1
set_option maxHeartbeats 4000000 in
theorem loc_X6_lay {P : Nat → Prop} {ZB : jZ} {IB : jI} {LB : jL} {v0 : Nat} {v1 : Int32} {v2 : Int32} {v3 : Int32} {Z : jZ} {I : jI} {L : jL} {Q1 Q2 : jI → jL → Prop} (d1 : DN6 P ZB v0) (kp : KP P ZB IB LB Z I L) (h1 : f_X6_lay v0 v1 v2 v3 Z I L Q1) (hq : ∀ (x0 : jI) (x1 : jL), KP P ZB IB LB Z x0 x1 → Q1 x0 x1 → Q2 x0 x1) : f_X6_lay v0 v1 v2 v3 Z I L Q2 := by
  unfold f_X6_lay at h1 ⊢
  intro I38 eI38
  have h1 := h1 I38 eI38
  have kp := KP.wI kp d1.2.1 eI38
  intro b39 eb39
  have h1 := h1 b39 eb39
  have d2 := dn_6_8 d1 kp eb39
  intro I40 eI40
  have h1 := h1 I40 eI40
  have kp := KP.wI kp d1.2.1 eI40
  intro b41 eb41
  have h1 := h1 b41 eb41
  have d3 := dn_6 d1 kp (by decide) eb41
  intro I42 eI42
  have h1 := h1 I42 eI42
  have kp := KP.wI kp d3 eI42
  obtain ⟨n1, h1⟩ := h1
  exact ⟨n1, loc_X6_lay_L31  hq n1 _ _ _ _ _ _ d1 kp h1⟩
set_option maxHeartbeats 4000000 in
theorem loc_J7_fill_53178_L5 {P : Nat → Prop} {ZB : jZ} {IB : jI} {LB : jL} {Z : jZ} {Q1 Q2 : jI → jL → Prop} (hq : ∀ (x0 : jI) (x1 : jL), KP P ZB IB LB Z x0 x1 → Q1 x0 x1 → Q2 x0 x1) : ∀ (n : Nat) (v0 : Nat) (v1 : Int32) (v2 : Int32) (v3 : Int32) (I : jI) (L : jL), ¬ P v0 → KP P ZB IB LB Z I L → f_J7_fill_53178_L5 Z Q1 n v0 v1 v2 v3 I L → f_J7_fill_53178_L5 Z Q2 n v0 v1 v2 v3 I L := by
  intro n
  induction n with
  | zero => intro v0 v1 v2 v3 I L d86 kp h1; exact h1.elim
  | succ n ih =>
    intro v0 v1 v2 v3 I L d86 kp h1
    unfold f_J7_fill_53178_L5 at h1 ⊢
    refine ⟨fun c => ?_, fun c => ?_⟩
    · have h1 := h1.1 c
      exact hq _ _ kp h1
    · have h1 := h1.2 c
      refine ⟨h1.1, ?_⟩
      have h1 := h1.2
      intro I3 eI3
      have h1 := h1 I3 eI3
      have kp := KP.wI kp d86 eI3
      intro x4 ex4
      have h1 := h1 x4 ex4
      exact ih _ _ _ _ _ _ d86 kp h1
set_option maxHeartbeats 4000000 in
theorem loc_J7_fill_53178 {P : Nat → Prop} {ZB : jZ} {IB : jI} {LB : jL} {v0 : Nat} {v1 : Int32} {Z : jZ} {I : jI} {L : jL} {Q1 Q2 : jI → jL → Prop} (d85 : ¬ P v0) (kp : KP P ZB IB LB Z I L) (h1 : f_J7_fill_53178 v0 v1 Z I L Q1) (hq : ∀ (x0 : jI) (x1 : jL), KP P ZB IB LB Z x0 x1 → Q1 x0 x1 → Q2 x0 x1) : f_J7_fill_53178 v0 v1 Z I L Q2 := by
  unfold f_J7_fill_53178 at h1 ⊢
  intro x5 ex5
  have h1 := h1 x5 ex5
  obtain ⟨n1, h1⟩ := h1
  exact ⟨n1, loc_J7_fill_53178_L5  hq n1 _ _ _ _ _ _ d85 kp h1⟩
set_option maxHeartbeats 4000000 in
theorem loc_X7_start {P : Nat → Prop} {ZB : jZ} {IB : jI} {LB : jL} {v0 : Nat} {v1 : Int32} {Z : jZ} {I : jI} {L : jL} {Q1 Q2 : jI → jL → Prop} (d87 : DN7 P ZB v0) (kp : KP P ZB IB LB Z I L) (h1 : f_X7_start v0 v1 Z I L Q1) (hq : ∀ (x0 : jI) (x1 : jL), KP P ZB IB LB Z x0 x1 → Q1 x0 x1 → Q2 x0 x1) : f_X7_start v0 v1 Z I L Q2 := by
  unfold f_X7_start at h1 ⊢
  refine ⟨fun c => ?_, fun c => ?_⟩
  · have h1 := h1.1 c
    unfold f_X7_start_b27 at h1 ⊢
    intro I1 eI1
    have h1 := h1 I1 eI1
    have kp := KP.wI kp d87.2.1 eI1
    intro I2 eI2
    have h1 := h1 I2 eI2
    have kp := KP.wI kp d87.2.1 eI2
    exact hq _ _ kp h1
  · have h1 := h1.2 c
    refine ⟨fun c => ?_, fun c => ?_⟩
    · have h1 := h1.1 c
      unfold f_X7_start_b27 at h1 ⊢
      intro I1 eI1
      have h1 := h1 I1 eI1
      have kp := KP.wI kp d87.2.1 eI1
      intro I2 eI2
      have h1 := h1 I2 eI2
      have kp := KP.wI kp d87.2.1 eI2
      exact hq _ _ kp h1
    · have h1 := h1.2 c
      intro b5 eb5
      have h1 := h1 b5 eb5
      have d88 := dn_7 d87 kp (by decide) eb5
      refine ⟨h1.1, ?_⟩
      have h1 := h1.2
      intro I7 eI7
      have h1 := h1 I7 eI7
      have kp := KP.wI kp d88 eI7
      intro b8 eb8
      have h1 := h1 b8 eb8
      have d89 := dn_7 d87 kp (by decide) eb8
      refine ⟨h1.1, ?_⟩
      have h1 := h1.2
      intro I10 eI10
      have h1 := h1 I10 eI10
      have kp := KP.wI kp d89 eI10
      unfold f_X7_start_b27 at h1 ⊢
      intro I1 eI1
      have h1 := h1 I1 eI1
      have kp := KP.wI kp d87.2.1 eI1
      intro I2 eI2
      have h1 := h1 I2 eI2
      have kp := KP.wI kp d87.2.1 eI2
      exact hq _ _ kp h1
set_option maxHeartbeats 4000000 in
theorem loc_X7_push {P : Nat → Prop} {ZB : jZ} {IB : jI} {LB : jL} {B : Nat × Nat} {v0 : Nat} {v1 : Int32} {v2 : Int64} {Z : jZ} {I : jI} {L : jL} {Q1 Q2 : jZ → jI → jL → Prop} (d90 : DN7 P ZB v0) (kp : KP P ZB IB LB Z I L) (h1 : f_X7_push B v0 v1 v2 Z I L Q1) (hq : ∀ (x0 : jZ) (x1 : jI) (x2 : jL), KP P ZB IB LB x0 x1 x2 → Q1 x0 x1 x2 → Q2 x0 x1 x2) : f_X7_push B v0 v1 v2 Z I L Q2 := by
  unfold f_X7_push at h1 ⊢
  intro b13 eb13
  have h1 := h1 b13 eb13
  have d91 := dn_7 d90 kp (by decide) eb13
  refine ⟨fun c => ?_, fun c => ?_⟩
  · have h1 := h1.1 c
    unfold f_X7_push_b38 at h1 ⊢
    intro b1 eb1
    have h1 := h1 b1 eb1
    have d92 := dn_7 d90 kp (by decide) eb1
    refine ⟨fun c => ?_, fun c => ?_⟩
    · have h1 := h1.1 c
      exact hq _ _ _ kp h1
    · have h1 := h1.2 c
      refine ⟨fun c => ?_, fun c => ?_⟩
      · have h1 := h1.1 c
        exact hq _ _ _ kp h1
      · have h1 := h1.2 c
        refine ⟨fun c => ?_, fun c => ?_⟩
        · have h1 := h1.1 c
          exact hq _ _ _ kp h1
        · have h1 := h1.2 c
          intro b5 eb5
          have h1 := h1 b5 eb5
          have d93 := dn_7 d90 kp (by decide) eb5
          refine ⟨h1.1, ?_⟩
          have h1 := h1.2
          intro L7 eL7
          have h1 := h1 L7 eL7
          have kp := KP.wL kp d93 eL7
          intro I8 eI8
          have h1 := h1 I8 eI8
          have kp := KP.wI kp d90.2.1 eI8
          intro b9 eb9
          have h1 := h1 b9 eb9
          have d94 := dn_7 d90 kp (by decide) eb9
          refine ⟨h1.1, ?_⟩
          have h1 := h1.2
          refine ⟨h1.1, ?_⟩
          have h1 := h1.2
          intro I12 eI12
          have h1 := h1 I12 eI12
          have kp := KP.wI kp d94 eI12
          exact hq _ _ _ kp h1
  · have h1 := h1.2 c
    refine ⟨fun c => ?_, fun c => ?_⟩
    · have h1 := h1.1 c
      unfold f_X7_push_b38 at h1 ⊢
      intro b1 eb1
      have h1 := h1 b1 eb1
      have d95 := dn_7 d90 kp (by decide) eb1
      refine ⟨fun c => ?_, fun c => ?_⟩
      · have h1 := h1.1 c
        exact hq _ _ _ kp h1
      · have h1 := h1.2 c
        refine ⟨fun c => ?_, fun c => ?_⟩
        · have h1 := h1.1 c
          exact hq _ _ _ kp h1
        · have h1 := h1.2 c
          refine ⟨fun c => ?_, fun c => ?_⟩
          · have h1 := h1.1 c
            exact hq _ _ _ kp h1
          · have h1 := h1.2 c
            intro b5 eb5
            have h1 := h1 b5 eb5
            have d96 := dn_7 d90 kp (by decide) eb5
            refine ⟨h1.1, ?_⟩
            have h1 := h1.2
            intro L7 eL7
            have h1 := h1 L7 eL7
            have kp := KP.wL kp d96 eL7
            intro I8 eI8
            have h1 := h1 I8 eI8
            have kp := KP.wI kp d90.2.1 eI8
            intro b9 eb9
            have h1 := h1 b9 eb9
            have d97 := dn_7 d90 kp (by decide) eb9
            refine ⟨h1.1, ?_⟩
            have h1 := h1.2
            refine ⟨h1.1, ?_⟩
            have h1 := h1.2
            intro I12 eI12
            have h1 := h1 I12 eI12
            have kp := KP.wI kp d97 eI12
            exact hq _ _ _ kp h1
    · have h1 := h1.2 c
      intro b16 eb16
      have h1 := h1 b16 eb16
      have d98 := dn_7 d90 kp (by decide) eb16
      refine loc_J7_copyOf_c38d5 kp h1 (fun r23 Z18 I19 L20 kp hr h1 => ?_)
      refine ⟨fun c => ?_, fun b25 c => ?_⟩
      · have h1 := h1.1 c
        exact h1.elim
      · have h1 := h1.2 b25 c
        have d99 := hr b25 c
        intro Z27 eZ27
        have h1 := h1 Z27 eZ27
        have kp := KP.wR kp d90 d99 eZ27
        unfold f_X7_push_b38 at h1 ⊢
        intro b1 eb1
        have h1 := h1 b1 eb1
        have d100 := dn_7 d90 kp (by decide) eb1
        refine ⟨fun c => ?_, fun c => ?_⟩
        · have h1 := h1.1 c
          exact hq _ _ _ kp h1
        · have h1 := h1.2 c
          refine ⟨fun c => ?_, fun c => ?_⟩
          · have h1 := h1.1 c
            exact hq _ _ _ kp h1
          · have h1 := h1.2 c
            refine ⟨fun c => ?_, fun c => ?_⟩
            · have h1 := h1.1 c
              exact hq _ _ _ kp h1
            · have h1 := h1.2 c
              intro b5 eb5
              have h1 := h1 b5 eb5
              have d101 := dn_7 d90 kp (by decide) eb5
              refine ⟨h1.1, ?_⟩
              have h1 := h1.2
              intro L7 eL7
              have h1 := h1 L7 eL7
              have kp := KP.wL kp d101 eL7
              intro I8 eI8
              have h1 := h1 I8 eI8
              have kp := KP.wI kp d90.2.1 eI8
              intro b9 eb9
              have h1 := h1 b9 eb9
              have d102 := dn_7 d90 kp (by decide) eb9
              refine ⟨h1.1, ?_⟩
              have h1 := h1.2
              refine ⟨h1.1, ?_⟩
              have h1 := h1.2
              intro I12 eI12
              have h1 := h1 I12 eI12
              have kp := KP.wI kp d102 eI12
              exact hq _ _ _ kp h1
set_option maxHeartbeats 4000000 in
theorem loc_X7_begin {P : Nat → Prop} {ZB : jZ} {IB : jI} {LB : jL} {B : Nat × Nat} {v0 : Nat} {v1 : Int32} {v2 : Int64} {Z : jZ} {I : jI} {L : jL} {Q1 Q2 : jZ → jI → jL → Prop} (d83 : DN7 P ZB v0) (kp : KP P ZB IB LB Z I L) (h1 : f_X7_begin B v0 v1 v2 Z I L Q1) (hq : ∀ (x0 : jZ) (x1 : jI) (x2 : jL), KP P ZB IB LB x0 x1 x2 → Q1 x0 x1 x2 → Q2 x0 x1 x2) : f_X7_begin B v0 v1 v2 Z I L Q2 := by
  unfold f_X7_begin at h1 ⊢
  intro b1 eb1
  have h1 := h1 b1 eb1
  have d84 := dn_7 d83 kp (by decide) eb1
  refine loc_J7_fill_53178 d84 kp h1 (fun I4 L5 kp h1 => ?_)
  intro I8 eI8
  have h1 := h1 I8 eI8
  have kp := KP.wI kp d83.2.1 eI8
  refine loc_X7_start d83 kp h1 (fun I11 L12 kp h1 => ?_)
  refine loc_X7_push d83 kp h1 (fun Z16 I17 L18 kp h1 => ?_)
  exact hq _ _ _ kp h1
set_option maxHeartbeats 4000000 in
theorem loc_X7_take_L4 {P : Nat → Prop} {ZB : jZ} {IB : jI} {LB : jL} {Z : jZ} {Q1 Q2 : Int64 → jI → jL → Prop} (hq : ∀ (x0 : Int64) (x1 : jI) (x2 : jL), KP P ZB IB LB Z x1 x2 → Q1 x0 x1 x2 → Q2 x0 x1 x2) : ∀ (n : Nat) (v0 : Nat) (v1 : Int32) (v2 : Int32) (I : jI) (L : jL), DN7 P ZB v0 → KP P ZB IB LB Z I L → f_X7_take_L4 Z Q1 n v0 v1 v2 I L → f_X7_take_L4 Z Q2 n v0 v1 v2 I L := by
  intro n
  induction n with
  | zero => intro v0 v1 v2 I L d113 kp h1; exact h1.elim
  | succ n ih =>
    intro v0 v1 v2 I L d113 kp h1
    unfold f_X7_take_L4 at h1 ⊢
    refine ⟨fun c => ?_, fun c => ?_⟩
    · have h1 := h1.1 c
      refine ⟨fun c => ?_, fun c => ?_⟩
      · have h1 := h1.1 c
        intro b7 eb7
        have h1 := h1 b7 eb7
        have d114 := dn_7 d113 kp (by decide) eb7
        refine ⟨h1.1, ?_⟩
        have h1 := h1.2
        intro x9 ex9
        have h1 := h1 x9 ex9
        intro b10 eb10
        have h1 := h1 b10 eb10
        have d115 := dn_7 d113 kp (by decide) eb10
        refine ⟨h1.1, ?_⟩
        have h1 := h1.2
        refine ⟨h1.1, ?_⟩
        have h1 := h1.2
        intro I13 eI13
        have h1 := h1 I13 eI13
        have kp := KP.wI kp d115 eI13
        intro b14 eb14
        have h1 := h1 b14 eb14
        have d116 := dn_7 d113 kp (by decide) eb14
        refine ⟨h1.1, ?_⟩
        have h1 := h1.2
        intro x16 ex16
        have h1 := h1 x16 ex16
        intro b17 eb17
        have h1 := h1 b17 eb17
        have d117 := dn_7 d113 kp (by decide) eb17
        intro b18 eb18
        have h1 := h1 b18 eb18
        have d118 := dn_7 d113 kp (by decide) eb18
        refine ⟨h1.1, ?_⟩
        have h1 := h1.2
        refine ⟨fun c => ?_, fun c => ?_⟩
        · have h1 := h1.1 c
          unfold f_X7_take_b119 at h1 ⊢
          unfold f_X7_take_b122 at h1 ⊢
          refine ⟨h1.1, ?_⟩
          have h1 := h1.2
          intro L2 eL2
          have h1 := h1 L2 eL2
          have kp := KP.wL kp d117 eL2
          intro I3 eI3
          have h1 := h1 I3 eI3
          have kp := KP.wI kp d113.2.1 eI3
          exact hq _ _ _ kp h1
        · have h1 := h1.2 c
          intro b21 eb21
          have h1 := h1 b21 eb21
          have d119 := dn_7 d113 kp (by decide) eb21
          refine ⟨fun c => ?_, fun c => ?_⟩
          · have h1 := h1.1 c
            unfold f_X7_take_b119 at h1 ⊢
            unfold f_X7_take_b122 at h1 ⊢
            refine ⟨h1.1, ?_⟩
            have h1 := h1.2
            intro L2 eL2
            have h1 := h1 L2 eL2
            have kp := KP.wL kp d117 eL2
            intro I3 eI3
            have h1 := h1 I3 eI3
            have kp := KP.wI kp d113.2.1 eI3
            exact hq _ _ _ kp h1
          · have h1 := h1.2 c
            intro b23 eb23
            have h1 := h1 b23 eb23
            have d120 := dn_7 d113 kp (by decide) eb23
            refine ⟨h1.1, ?_⟩
            have h1 := h1.2
            intro b25 eb25
            have h1 := h1 b25 eb25
            have d121 := dn_7 d113 kp (by decide) eb25
            refine ⟨h1.1, ?_⟩
            have h1 := h1.2
            unfold f_X7_take_b122 at h1 ⊢
            refine ⟨h1.1, ?_⟩
            have h1 := h1.2
            intro L2 eL2
            have h1 := h1 L2 eL2
            have kp := KP.wL kp d117 eL2
            intro I3 eI3
            have h1 := h1 I3 eI3
            have kp := KP.wI kp d113.2.1 eI3
            exact hq _ _ _ kp h1
      · have h1 := h1.2 c
        exact hq _ _ _ kp h1
    · have h1 := h1.2 c
      intro b27 eb27
      have h1 := h1 b27 eb27
      have d122 := dn_7 d113 kp (by decide) eb27
      refine ⟨h1.1, ?_⟩
      have h1 := h1.2
      intro b29 eb29
      have h1 := h1 b29 eb29
      have d123 := dn_7 d113 kp (by decide) eb29
      refine ⟨h1.1, ?_⟩
      have h1 := h1.2
      refine ⟨fun c => ?_, fun c => ?_⟩
      · have h1 := h1.1 c
        unfold f_X7_take_b33 at h1 ⊢
        intro x4 ex4
        have h1 := h1 x4 ex4
        exact ih _ _ _ _ _ d113 kp h1
      · have h1 := h1.2 c
        unfold f_X7_take_b33 at h1 ⊢
        intro x4 ex4
        have h1 := h1 x4 ex4
        exact ih _ _ _ _ _ d113 kp h1
set_option maxHeartbeats 4000000 in
theorem loc_X7_take {P : Nat → Prop} {ZB : jZ} {IB : jI} {LB : jL} {v0 : Nat} {Z : jZ} {I : jI} {L : jL} {Q1 Q2 : Int64 → jI → jL → Prop} (d112 : DN7 P ZB v0) (kp : KP P ZB IB LB Z I L) (h1 : f_X7_take v0 Z I L Q1) (hq : ∀ (x0 : Int64) (x1 : jI) (x2 : jL), KP P ZB IB LB Z x1 x2 → Q1 x0 x1 x2 → Q2 x0 x1 x2) : f_X7_take v0 Z I L Q2 := by
  unfold f_X7_take at h1 ⊢
  obtain ⟨n1, h1⟩ := h1
  exact ⟨n1, loc_X7_take_L4  hq n1 _ _ _ _ _ d112 kp h1⟩
set_option maxHeartbeats 4000000 in
theorem loc_X11_costIn {P : Nat → Prop} {ZB : jZ} {IB : jI} {LB : jL} {v0 : Int64} {Z : jZ} {I : jI} {L : jL} {Q1 Q2 : Int32 → jI → jL → Prop} (kp : KP P ZB IB LB Z I L) (h1 : f_X11_costIn v0 Z I L Q1) (hq : ∀ (x0 : Int32) (x1 : jI) (x2 : jL), KP P ZB IB LB Z x1 x2 → Q1 x0 x1 x2 → Q2 x0 x1 x2) : f_X11_costIn v0 Z I L Q2 := by
  unfold f_X11_costIn at h1 ⊢
  exact hq _ _ _ kp h1
set_option maxHeartbeats 4000000 in
theorem loc_X11_effortIn {P : Nat → Prop} {ZB : jZ} {IB : jI} {LB : jL} {v0 : Int64} {Z : jZ} {I : jI} {L : jL} {Q1 Q2 : Int32 → jI → jL → Prop} (kp : KP P ZB IB LB Z I L) (h1 : f_X11_effortIn v0 Z I L Q1) (hq : ∀ (x0 : Int32) (x1 : jI) (x2 : jL), KP P ZB IB LB Z x1 x2 → Q1 x0 x1 x2 → Q2 x0 x1 x2) : f_X11_effortIn v0 Z I L Q2 := by
  unfold f_X11_effortIn at h1 ⊢
  exact hq _ _ _ kp h1
set_option maxHeartbeats 4000000 in
theorem loc_X7_keepCheapest_L9 {P : Nat → Prop} {ZB : jZ} {IB : jI} {LB : jL} {B : Nat × Nat} {Q1 Q2 : jZ → jI → jL → Prop} (hq : ∀ (x0 : jZ) (x1 : jI) (x2 : jL), KP P ZB IB LB x0 x1 x2 → Q1 x0 x1 x2 → Q2 x0 x1 x2) : ∀ (n : Nat) (v0 : Nat) (v1 : Int32) (v3 : Int32) (v4 : Int32) (v5 : Int32) (Z : jZ) (I : jI) (L : jL), DN7 P ZB v0 → KP P ZB IB LB Z I L → f_X7_keepCheapest_L9 B Q1 n v0 v1 v3 v4 v5 Z I L → f_X7_keepCheapest_L9 B Q2 n v0 v1 v3 v4 v5 Z I L := by
  intro n
  induction n with
  | zero => intro v0 v1 v3 v4 v5 Z I L d111 kp h1; exact h1.elim
  | succ n ih =>
    intro v0 v1 v3 v4 v5 Z I L d111 kp h1
    unfold f_X7_keepCheapest_L9 at h1 ⊢
    refine ⟨fun c => ?_, fun c => ?_⟩
    · have h1 := h1.1 c
      exact hq _ _ _ kp h1
    · have h1 := h1.2 c
      refine ⟨fun c => ?_, fun c => ?_⟩
      · have h1 := h1.1 c
        exact hq _ _ _ kp h1
      · have h1 := h1.2 c
        refine loc_X7_take d111 kp h1 (fun r10 I6 L7 kp h1 => ?_)
        refine loc_X11_costIn  kp h1 (fun r17 I13 L14 kp h1 => ?_)
        refine ⟨fun c => ?_, fun c => ?_⟩
        · have h1 := h1.1 c
          refine loc_X11_effortIn  kp h1 (fun r25 I21 L22 kp h1 => ?_)
          refine ⟨fun c => ?_, fun c => ?_⟩
          · have h1 := h1.1 c
            unfold f_X7_keepCheapest_b61 at h1 ⊢
            intro x1 ex1
            have h1 := h1 x1 ex1
            exact ih _ _ _ _ _ _ _ _ d111 kp h1
          · have h1 := h1.2 c
            refine loc_X7_push d111 kp h1 (fun Z28 I29 L30 kp h1 => ?_)
            refine loc_X11_effortIn  kp h1 (fun r40 I36 L37 kp h1 => ?_)
            intro x41 ex41
            have h1 := h1 x41 ex41
            unfold f_X7_keepCheapest_b61 at h1 ⊢
            intro x1 ex1
            have h1 := h1 x1 ex1
            exact ih _ _ _ _ _ _ _ _ d111 kp h1
        · have h1 := h1.2 c
          exact hq _ _ _ kp h1
set_option maxHeartbeats 4000000 in
theorem loc_X7_keepCheapest {P : Nat → Prop} {ZB : jZ} {IB : jI} {LB : jL} {B : Nat × Nat} {v0 : Nat} {v1 : Int32} {v2 : Int32} {v3 : Int32} {Z : jZ} {I : jI} {L : jL} {Q1 Q2 : jZ → jI → jL → Prop} (d110 : DN7 P ZB v0) (kp : KP P ZB IB LB Z I L) (h1 : f_X7_keepCheapest B v0 v1 v2 v3 Z I L Q1) (hq : ∀ (x0 : jZ) (x1 : jI) (x2 : jL), KP P ZB IB LB x0 x1 x2 → Q1 x0 x1 x2 → Q2 x0 x1 x2) : f_X7_keepCheapest B v0 v1 v2 v3 Z I L Q2 := by
  unfold f_X7_keepCheapest at h1 ⊢
  intro x42 ex42
  have h1 := h1 x42 ex42
  obtain ⟨n1, h1⟩ := h1
  exact ⟨n1, loc_X7_keepCheapest_L9  hq n1 _ _ _ _ _ _ _ _ d110 kp h1⟩
set_option maxHeartbeats 4000000 in
theorem loc_X11_bitOf {P : Nat → Prop} {ZB : jZ} {IB : jI} {LB : jL} {v0 : Int32} {Z : jZ} {I : jI} {L : jL} {Q1 Q2 : Int64 → jI → jL → Prop} (kp : KP P ZB IB LB Z I L) (h1 : f_X11_bitOf v0 Z I L Q1) (hq : ∀ (x0 : Int64) (x1 : jI) (x2 : jL), KP P ZB IB LB Z x1 x2 → Q1 x0 x1 x2 → Q2 x0 x1 x2) : f_X11_bitOf v0 Z I L Q2 := by
  unfold f_X11_bitOf at h1 ⊢
  exact hq _ _ _ kp h1
set_option maxHeartbeats 4000000 in
theorem loc_X6_keyOf {P : Nat → Prop} {ZB : jZ} {IB : jI} {LB : jL} {v0 : Nat} {v1 : Int32} {v2 : Int32} {Z : jZ} {I : jI} {L : jL} {Q1 Q2 : Int64 → jI → jL → Prop} (d131 : DN6 P ZB v0) (kp : KP P ZB IB LB Z I L) (h1 : f_X6_keyOf v0 v1 v2 Z I L Q1) (hq : ∀ (x0 : Int64) (x1 : jI) (x2 : jL), KP P ZB IB LB Z x1 x2 → Q1 x0 x1 x2 → Q2 x0 x1 x2) : f_X6_keyOf v0 v1 v2 Z I L Q2 := by
  unfold f_X6_keyOf at h1 ⊢
  refine loc_X6_moveTo  kp h1 (fun r7 I3 L4 kp h1 => ?_)
  intro b8 eb8
  have h1 := h1 b8 eb8
  have d132 := dn_6 d131 kp (by decide) eb8
  refine ⟨h1.1, ?_⟩
  have h1 := h1.2
  intro b10 eb10
  have h1 := h1 b10 eb10
  have d133 := dn_6 d131 kp (by decide) eb10
  refine ⟨h1.1, ?_⟩
  have h1 := h1.2
  refine loc_X11_bitOf  kp h1 (fun r18 I14 L15 kp h1 => ?_)
  exact hq _ _ _ kp h1
set_option maxHeartbeats 4000000 in
theorem loc_X7_sizeAt {P : Nat → Prop} {ZB : jZ} {IB : jI} {LB : jL} {v0 : Nat} {v1 : Int32} {Z : jZ} {I : jI} {L : jL} {Q1 Q2 : Int32 → jI → jL → Prop} (d135 : DN7 P ZB v0) (kp : KP P ZB IB LB Z I L) (h1 : f_X7_sizeAt v0 v1 Z I L Q1) (hq : ∀ (x0 : Int32) (x1 : jI) (x2 : jL), KP P ZB IB LB Z x1 x2 → Q1 x0 x1 x2 → Q2 x0 x1 x2) : f_X7_sizeAt v0 v1 Z I L Q2 := by
  unfold f_X7_sizeAt at h1 ⊢
  refine ⟨fun c => ?_, fun c => ?_⟩
  · have h1 := h1.1 c
    exact hq _ _ _ kp h1
  · have h1 := h1.2 c
    refine ⟨fun c => ?_, fun c => ?_⟩
    · have h1 := h1.1 c
      exact hq _ _ _ kp h1
    · have h1 := h1.2 c
      intro b3 eb3
      have h1 := h1 b3 eb3
      have d136 := dn_7 d135 kp (by decide) eb3
      refine ⟨h1.1, ?_⟩
      have h1 := h1.2
      exact hq _ _ _ kp h1
set_option maxHeartbeats 4000000 in
theorem loc_X7_merge {P : Nat → Prop} {ZB : jZ} {IB : jI} {LB : jL} {v0 : Nat} {v1 : Int32} {v2 : Int64} {Z : jZ} {I : jI} {L : jL} {Q1 Q2 : jI → jL → Prop} (d134 : DN7 P ZB v0) (kp : KP P ZB IB LB Z I L) (h1 : f_X7_merge v0 v1 v2 Z I L Q1) (hq : ∀ (x0 : jI) (x1 : jL), KP P ZB IB LB Z x0 x1 → Q1 x0 x1 → Q2 x0 x1) : f_X7_merge v0 v1 v2 Z I L Q2 := by
  unfold f_X7_merge at h1 ⊢
  refine loc_X7_sizeAt d134 kp h1 (fun r7 I3 L4 kp h1 => ?_)
  refine ⟨fun c => ?_, fun c => ?_⟩
  · have h1 := h1.1 c
    exact hq _ _ kp h1
  · have h1 := h1.2 c
    refine ⟨fun c => ?_, fun c => ?_⟩
    · have h1 := h1.1 c
      exact hq _ _ kp h1
    · have h1 := h1.2 c
      intro b10 eb10
      have h1 := h1 b10 eb10
      have d137 := dn_7 d134 kp (by decide) eb10
      intro b11 eb11
      have h1 := h1 b11 eb11
      have d138 := dn_7 d134 kp (by decide) eb11
      refine ⟨h1.1, ?_⟩
      have h1 := h1.2
      refine ⟨h1.1, ?_⟩
      have h1 := h1.2
      intro I14 eI14
      have h1 := h1 I14 eI14
      have kp := KP.wI kp d137 eI14
      intro b15 eb15
      have h1 := h1 b15 eb15
      have d139 := dn_7 d134 kp (by decide) eb15
      intro b16 eb16
      have h1 := h1 b16 eb16
      have d140 := dn_7 d134 kp (by decide) eb16
      refine ⟨h1.1, ?_⟩
      have h1 := h1.2
      refine ⟨h1.1, ?_⟩
      have h1 := h1.2
      intro I19 eI19
      have h1 := h1 I19 eI19
      have kp := KP.wI kp d139 eI19
      intro b20 eb20
      have h1 := h1 b20 eb20
      have d141 := dn_7 d134 kp (by decide) eb20
      refine ⟨h1.1, ?_⟩
      have h1 := h1.2
      intro L22 eL22
      have h1 := h1 L22 eL22
      have kp := KP.wL kp d141 eL22
      intro b23 eb23
      have h1 := h1 b23 eb23
      have d142 := dn_7 d134 kp (by decide) eb23
      intro b24 eb24
      have h1 := h1 b24 eb24
      have d143 := dn_7 d134 kp (by decide) eb24
      intro b25 eb25
      have h1 := h1 b25 eb25
      have d144 := dn_7 d134 kp (by decide) eb25
      refine ⟨h1.1, ?_⟩
      have h1 := h1.2
      refine ⟨h1.1, ?_⟩
      have h1 := h1.2
      refine ⟨h1.1, ?_⟩
      have h1 := h1.2
      intro L29 eL29
      have h1 := h1 L29 eL29
      have kp := KP.wL kp d142 eL29
      intro I30 eI30
      have h1 := h1 I30 eI30
      have kp := KP.wI kp d134.2.1 eI30
      intro I31 eI31
      have h1 := h1 I31 eI31
      have kp := KP.wI kp d134.2.1 eI31
      exact hq _ _ kp h1
set_option maxHeartbeats 4000000 in
theorem loc_X6_lower_L10 {P : Nat → Prop} {ZB : jZ} {IB : jI} {LB : jL} {B : Nat × Nat} {Q1 Q2 : jZ → jI → jL → Prop} (hq : ∀ (x0 : jZ) (x1 : jI) (x2 : jL), KP P ZB IB LB x0 x1 x2 → Q1 x0 x1 x2 → Q2 x0 x1 x2) : ∀ (n : Nat) (v0 : Nat) (v1 : Int32) (v2 : Int32) (Z : jZ) (I : jI) (L : jL), DN6 P ZB v0 → KP P ZB IB LB Z I L → f_X6_lower_L10 B Q1 n v0 v1 v2 Z I L → f_X6_lower_L10 B Q2 n v0 v1 v2 Z I L := by
  intro n
  induction n with
  | zero => intro v0 v1 v2 Z I L d107 kp h1; exact h1.elim
  | succ n ih =>
    intro v0 v1 v2 Z I L d107 kp h1
    unfold f_X6_lower_L10 at h1 ⊢
    refine ⟨fun c => ?_, fun c => ?_⟩
    · have h1 := h1.1 c
      unfold f_X6_lower_b72 at h1 ⊢
      intro b1 eb1
      have h1 := h1 b1 eb1
      have d108 := dn_6_7 d107 kp (by decide) eb1
      intro b2 eb2
      have h1 := h1 b2 eb2
      have d109 := dn_6 d107 kp (by decide) eb2
      refine ⟨h1.1, ?_⟩
      have h1 := h1.2
      refine loc_X7_keepCheapest d108 kp h1 (fun Z5 I6 L7 kp h1 => ?_)
      exact hq _ _ _ kp h1
    · have h1 := h1.2 c
      refine ⟨fun c => ?_, fun c => ?_⟩
      · have h1 := h1.1 c
        unfold f_X6_lower_b72 at h1 ⊢
        intro b1 eb1
        have h1 := h1 b1 eb1
        have d124 := dn_6_7 d107 kp (by decide) eb1
        intro b2 eb2
        have h1 := h1 b2 eb2
        have d125 := dn_6 d107 kp (by decide) eb2
        refine ⟨h1.1, ?_⟩
        have h1 := h1.2
        refine loc_X7_keepCheapest d124 kp h1 (fun Z5 I6 L7 kp h1 => ?_)
        exact hq _ _ _ kp h1
      · have h1 := h1.2 c
        intro b14 eb14
        have h1 := h1 b14 eb14
        have d126 := dn_6 d107 kp (by decide) eb14
        refine ⟨h1.1, ?_⟩
        have h1 := h1.2
        refine ⟨fun c => ?_, fun c => ?_⟩
        · have h1 := h1.1 c
          unfold f_X6_lower_b72 at h1 ⊢
          intro b1 eb1
          have h1 := h1 b1 eb1
          have d127 := dn_6_7 d107 kp (by decide) eb1
          intro b2 eb2
          have h1 := h1 b2 eb2
          have d128 := dn_6 d107 kp (by decide) eb2
          refine ⟨h1.1, ?_⟩
          have h1 := h1.2
          refine loc_X7_keepCheapest d127 kp h1 (fun Z5 I6 L7 kp h1 => ?_)
          exact hq _ _ _ kp h1
        · have h1 := h1.2 c
          intro b17 eb17
          have h1 := h1 b17 eb17
          have d129 := dn_6 d107 kp (by decide) eb17
          refine ⟨h1.1, ?_⟩
          have h1 := h1.2
          refine ⟨fun c => ?_, fun c => ?_⟩
          · have h1 := h1.1 c
            unfold f_X6_lower_b66 at h1 ⊢
            intro x11 ex11
            have h1 := h1 x11 ex11
            exact ih _ _ _ _ _ _ d107 kp h1
          · have h1 := h1.2 c
            intro b20 eb20
            have h1 := h1 b20 eb20
            have d130 := dn_6_7 d107 kp (by decide) eb20
            refine loc_X6_keyOf d107 kp h1 (fun r27 I23 L24 kp h1 => ?_)
            refine loc_X7_merge d130 kp h1 (fun I30 L31 kp h1 => ?_)
            unfold f_X6_lower_b66 at h1 ⊢
            intro x11 ex11
            have h1 := h1 x11 ex11
            exact ih _ _ _ _ _ _ d107 kp h1
set_option maxHeartbeats 4000000 in
theorem loc_X6_lower {P : Nat → Prop} {ZB : jZ} {IB : jI} {LB : jL} {B : Nat × Nat} {v0 : Nat} {v1 : Int32} {Z : jZ} {I : jI} {L : jL} {Q1 Q2 : jZ → jI → jL → Prop} (d105 : DN6 P ZB v0) (kp : KP P ZB IB LB Z I L) (h1 : f_X6_lower B v0 v1 Z I L Q1) (hq : ∀ (x0 : jZ) (x1 : jI) (x2 : jL), KP P ZB IB LB x0 x1 x2 → Q1 x0 x1 x2 → Q2 x0 x1 x2) : f_X6_lower B v0 v1 Z I L Q2 := by
  unfold f_X6_lower at h1 ⊢
  intro b34 eb34
  have h1 := h1 b34 eb34
  have d106 := dn_6_7 d105 kp (by decide) eb34
  refine loc_X7_start d106 kp h1 (fun I37 L38 kp h1 => ?_)
  obtain ⟨n1, h1⟩ := h1
  exact ⟨n1, loc_X6_lower_L10  hq n1 _ _ _ _ _ _ d105 kp h1⟩
set_option maxHeartbeats 4000000 in
theorem loc_X6_survey_L48 {P : Nat → Prop} {ZB : jZ} {IB : jI} {LB : jL} {B : Nat × Nat} {Q1 Q2 : jZ → jI → jL → Prop} (hq : ∀ (x0 : jZ) (x1 : jI) (x2 : jL), KP P ZB IB LB x0 x1 x2 → Q1 x0 x1 x2 → Q2 x0 x1 x2) : ∀ (n : Nat) (v0 : Nat) (v1 : Int32) (Z : jZ) (I : jI) (L : jL), DN6 P ZB v0 → KP P ZB IB LB Z I L → f_X6_survey_L48 B Q1 n v0 v1 Z I L → f_X6_survey_L48 B Q2 n v0 v1 Z I L := by
  intro n
  induction n with
  | zero => intro v0 v1 Z I L d103 kp h1; exact h1.elim
  | succ n ih =>
    intro v0 v1 Z I L d103 kp h1
    unfold f_X6_survey_L48 at h1 ⊢
    refine ⟨fun c => ?_, fun c => ?_⟩
    · have h1 := h1.1 c
      intro b2 eb2
      have h1 := h1 b2 eb2
      have d104 := dn_6_7 d103 kp (by decide) eb2
      refine loc_X7_begin d104 kp h1 (fun Z4 I5 L6 kp h1 => ?_)
      exact hq _ _ _ kp h1
    · have h1 := h1.2 c
      refine loc_X6_lower d103 kp h1 (fun Z11 I12 L13 kp h1 => ?_)
      intro x17 ex17
      have h1 := h1 x17 ex17
      exact ih _ _ _ _ _ d103 kp h1
set_option maxHeartbeats 4000000 in
theorem loc_X6_leastEffortFrom_L13 {P : Nat → Prop} {ZB : jZ} {IB : jI} {LB : jL} {Z : jZ} {Q1 Q2 : Int32 → jI → jL → Prop} (hq : ∀ (x0 : Int32) (x1 : jI) (x2 : jL), KP P ZB IB LB Z x1 x2 → Q1 x0 x1 x2 → Q2 x0 x1 x2) : ∀ (n : Nat) (v0 : Nat) (v1 : Int32) (v2 : Int32) (v3 : Int32) (I : jI) (L : jL), DN6 P ZB v0 → KP P ZB IB LB Z I L → f_X6_leastEffortFrom_L13 Z Q1 n v0 v1 v2 v3 I L → f_X6_leastEffortFrom_L13 Z Q2 n v0 v1 v2 v3 I L := by
  intro n
  induction n with
  | zero => intro v0 v1 v2 v3 I L d147 kp h1; exact h1.elim
  | succ n ih =>
    intro v0 v1 v2 v3 I L d147 kp h1
    unfold f_X6_leastEffortFrom_L13 at h1 ⊢
    refine ⟨fun c => ?_, fun c => ?_⟩
    · have h1 := h1.1 c
      exact hq _ _ _ kp h1
    · have h1 := h1.2 c
      refine ⟨fun c => ?_, fun c => ?_⟩
      · have h1 := h1.1 c
        exact hq _ _ _ kp h1
      · have h1 := h1.2 c
        intro b3 eb3
        have h1 := h1 b3 eb3
        have d148 := dn_6 d147 kp (by decide) eb3
        refine ⟨h1.1, ?_⟩
        have h1 := h1.2
        refine ⟨fun c => ?_, fun c => ?_⟩
        · have h1 := h1.1 c
          exact hq _ _ _ kp h1
        · have h1 := h1.2 c
          intro b6 eb6
          have h1 := h1 b6 eb6
          have d149 := dn_6 d147 kp (by decide) eb6
          refine loc_X6_moveTo  kp h1 (fun r13 I9 L10 kp h1 => ?_)
          refine ⟨h1.1, ?_⟩
          have h1 := h1.2
          intro b15 eb15
          have h1 := h1 b15 eb15
          have d150 := dn_6 d147 kp (by decide) eb15
          refine ⟨h1.1, ?_⟩
          have h1 := h1.2
          intro x17 ex17
          have h1 := h1 x17 ex17
          intro x18 ex18
          have h1 := h1 x18 ex18
          exact ih _ _ _ _ _ _ d147 kp h1
set_option maxHeartbeats 4000000 in
theorem loc_X6_leastEffortFrom {P : Nat → Prop} {ZB : jZ} {IB : jI} {LB : jL} {v0 : Nat} {v1 : Int32} {Z : jZ} {I : jI} {L : jL} {Q1 Q2 : Int32 → jI → jL → Prop} (d146 : DN6 P ZB v0) (kp : KP P ZB IB LB Z I L) (h1 : f_X6_leastEffortFrom v0 v1 Z I L Q1) (hq : ∀ (x0 : Int32) (x1 : jI) (x2 : jL), KP P ZB IB LB Z x1 x2 → Q1 x0 x1 x2 → Q2 x0 x1 x2) : f_X6_leastEffortFrom v0 v1 Z I L Q2 := by
  unfold f_X6_leastEffortFrom at h1 ⊢
  refine ⟨fun c => ?_, fun c => ?_⟩
  · have h1 := h1.1 c
    unfold f_X6_leastEffortFrom_b10 at h1 ⊢
    obtain ⟨n1, h1⟩ := h1
    exact ⟨n1, loc_X6_leastEffortFrom_L13  hq n1 _ _ _ _ _ _ d146 kp h1⟩
  · have h1 := h1.2 c
    unfold f_X6_leastEffortFrom_b10 at h1 ⊢
    obtain ⟨n1, h1⟩ := h1
    exact ⟨n1, loc_X6_leastEffortFrom_L13  hq n1 _ _ _ _ _ _ d146 kp h1⟩
set_option maxHeartbeats 4000000 in
theorem loc_X6_survey_L2 {P : Nat → Prop} {ZB : jZ} {IB : jI} {LB : jL} {B : Nat × Nat} {Q1 Q2 : jZ → jI → jL → Prop} (hq : ∀ (x0 : jZ) (x1 : jI) (x2 : jL), KP P ZB IB LB x0 x1 x2 → Q1 x0 x1 x2 → Q2 x0 x1 x2) : ∀ (n : Nat) (v0 : Nat) (v1 : Int32) (Z : jZ) (I : jI) (L : jL), DN6 P ZB v0 → KP P ZB IB LB Z I L → f_X6_survey_L2 B Q1 n v0 v1 Z I L → f_X6_survey_L2 B Q2 n v0 v1 Z I L := by
  intro n
  induction n with
  | zero => intro v0 v1 Z I L d81 kp h1; exact h1.elim
  | succ n ih =>
    intro v0 v1 Z I L d81 kp h1
    unfold f_X6_survey_L2 at h1 ⊢
    refine ⟨fun c => ?_, fun c => ?_⟩
    · have h1 := h1.1 c
      intro b19 eb19
      have h1 := h1 b19 eb19
      have d82 := dn_6_7 d81 kp (by decide) eb19
      refine loc_X7_begin d82 kp h1 (fun Z21 I22 L23 kp h1 => ?_)
      intro x27 ex27
      have h1 := h1 x27 ex27
      obtain ⟨n1, h1⟩ := h1
      exact ⟨n1, loc_X6_survey_L48  hq n1 _ _ _ _ _ d81 kp h1⟩
    · have h1 := h1.2 c
      intro b29 eb29
      have h1 := h1 b29 eb29
      have d145 := dn_6 d81 kp (by decide) eb29
      refine loc_X6_leastEffortFrom d81 kp h1 (fun r36 I32 L33 kp h1 => ?_)
      refine ⟨h1.1, ?_⟩
      have h1 := h1.2
      intro I38 eI38
      have h1 := h1 I38 eI38
      have kp := KP.wI kp d145 eI38
      intro x39 ex39
      have h1 := h1 x39 ex39
      exact ih _ _ _ _ _ d81 kp h1
set_option maxHeartbeats 4000000 in
theorem loc_X6_survey {P : Nat → Prop} {ZB : jZ} {IB : jI} {LB : jL} {B : Nat × Nat} {v0 : Nat} {Z : jZ} {I : jI} {L : jL} {Q1 Q2 : jZ → jI → jL → Prop} (d80 : DN6 P ZB v0) (kp : KP P ZB IB LB Z I L) (h1 : f_X6_survey B v0 Z I L Q1) (hq : ∀ (x0 : jZ) (x1 : jI) (x2 : jL), KP P ZB IB LB x0 x1 x2 → Q1 x0 x1 x2 → Q2 x0 x1 x2) : f_X6_survey B v0 Z I L Q2 := by
  unfold f_X6_survey at h1 ⊢
  obtain ⟨n1, h1⟩ := h1
  exact ⟨n1, loc_X6_survey_L2  hq n1 _ _ _ _ _ d80 kp h1⟩
set_option maxHeartbeats 4000000 in
theorem loc_J7_fill_d0a16_L6 {P : Nat → Prop} {ZB : jZ} {IB : jI} {LB : jL} {Z : jZ} {Q1 Q2 : jI → jL → Prop} (hq : ∀ (x0 : jI) (x1 : jL), KP P ZB IB LB Z x0 x1 → Q1 x0 x1 → Q2 x0 x1) : ∀ (n : Nat) (v0 : Nat) (v1 : Int64) (v3 : Int32) (v4 : Int32) (I : jI) (L : jL), ¬ P v0 → KP P ZB IB LB Z I L → f_J7_fill_d0a16_L6 Z Q1 n v0 v1 v3 v4 I L → f_J7_fill_d0a16_L6 Z Q2 n v0 v1 v3 v4 I L := by
  intro n
  induction n with
  | zero => intro v0 v1 v3 v4 I L d156 kp h1; exact h1.elim
  | succ n ih =>
    intro v0 v1 v3 v4 I L d156 kp h1
    unfold f_J7_fill_d0a16_L6 at h1 ⊢
    refine ⟨fun c => ?_, fun c => ?_⟩
    · have h1 := h1.1 c
      exact hq _ _ kp h1
    · have h1 := h1.2 c
      refine ⟨h1.1, ?_⟩
      have h1 := h1.2
      intro L3 eL3
      have h1 := h1 L3 eL3
      have kp := KP.wL kp d156 eL3
      intro x4 ex4
      have h1 := h1 x4 ex4
      exact ih _ _ _ _ _ _ d156 kp h1
set_option maxHeartbeats 4000000 in
theorem loc_J7_fill_d0a16 {P : Nat → Prop} {ZB : jZ} {IB : jI} {LB : jL} {v0 : Nat} {v1 : Int64} {Z : jZ} {I : jI} {L : jL} {Q1 Q2 : jI → jL → Prop} (d155 : ¬ P v0) (kp : KP P ZB IB LB Z I L) (h1 : f_J7_fill_d0a16 v0 v1 Z I L Q1) (hq : ∀ (x0 : jI) (x1 : jL), KP P ZB IB LB Z x0 x1 → Q1 x0 x1 → Q2 x0 x1) : f_J7_fill_d0a16 v0 v1 Z I L Q2 := by
  unfold f_J7_fill_d0a16 at h1 ⊢
  intro x5 ex5
  have h1 := h1 x5 ex5
  obtain ⟨n1, h1⟩ := h1
  exact ⟨n1, loc_J7_fill_d0a16_L6  hq n1 _ _ _ _ _ _ d155 kp h1⟩
set_option maxHeartbeats 4000000 in
theorem loc_X6_addOffers_L88 {P : Nat → Prop} {ZB : jZ} {IB : jI} {LB : jL} {Z : jZ} {Q1 Q2 : jI → jL → Prop} (hq : ∀ (x0 : jI) (x1 : jL), KP P ZB IB LB Z x0 x1 → Q1 x0 x1 → Q2 x0 x1) : ∀ (n : Nat) (v0 : Nat) (v2 : Nat) (v3 : Nat) (v4 : Int32) (I : jI) (L : jL), DN6 P ZB v0 → ¬ P v2 → ¬ P v3 → KP P ZB IB LB Z I L → f_X6_addOffers_L88 Z Q1 n v0 v2 v3 v4 I L → f_X6_addOffers_L88 Z Q2 n v0 v2 v3 v4 I L := by
  intro n
  induction n with
  | zero => intro v0 v2 v3 v4 I L d160 d161 d162 kp h1; exact h1.elim
  | succ n ih =>
    intro v0 v2 v3 v4 I L d160 d161 d162 kp h1
    unfold f_X6_addOffers_L88 at h1 ⊢
    refine ⟨fun c => ?_, fun c => ?_⟩
    · have h1 := h1.1 c
      exact hq _ _ kp h1
    · have h1 := h1.2 c
      intro b3 eb3
      have h1 := h1 b3 eb3
      have d163 := dn_6 d160 kp (by decide) eb3
      refine ⟨h1.1, ?_⟩
      have h1 := h1.2
      refine ⟨fun c => ?_, fun c => ?_⟩
      · have h1 := h1.1 c
        unfold f_X6_addOffers_b148 at h1 ⊢
        intro x1 ex1
        have h1 := h1 x1 ex1
        exact ih _ _ _ _ _ _ d160 d161 d162 kp h1
      · have h1 := h1.2 c
        intro b6 eb6
        have h1 := h1 b6 eb6
        have d164 := dn_6 d160 kp (by decide) eb6
        refine ⟨h1.1, ?_⟩
        have h1 := h1.2
        refine loc_X11_costIn  kp h1 (fun r14 I10 L11 kp h1 => ?_)
        refine ⟨fun c => ?_, fun c => ?_⟩
        · have h1 := h1.1 c
          unfold f_X6_addOffers_b148 at h1 ⊢
          intro x1 ex1
          have h1 := h1 x1 ex1
          exact ih _ _ _ _ _ _ d160 d161 d162 kp h1
        · have h1 := h1.2 c
          refine ⟨h1.1, ?_⟩
          have h1 := h1.2
          intro b17 eb17
          have h1 := h1 b17 eb17
          have d165 := dn_6 d160 kp (by decide) eb17
          refine ⟨h1.1, ?_⟩
          have h1 := h1.2
          refine ⟨h1.1, ?_⟩
          have h1 := h1.2
          intro I20 eI20
          have h1 := h1 I20 eI20
          have kp := KP.wI kp d161 eI20
          refine ⟨h1.1, ?_⟩
          have h1 := h1.2
          refine ⟨h1.1, ?_⟩
          have h1 := h1.2
          intro I23 eI23
          have h1 := h1 I23 eI23
          have kp := KP.wI kp d162 eI23
          unfold f_X6_addOffers_b148 at h1 ⊢
          intro x1 ex1
          have h1 := h1 x1 ex1
          exact ih _ _ _ _ _ _ d160 d161 d162 kp h1
set_option maxHeartbeats 4000000 in
theorem loc_X7_keyAt {P : Nat → Prop} {ZB : jZ} {IB : jI} {LB : jL} {v0 : Nat} {v1 : Int32} {v2 : Int32} {Z : jZ} {I : jI} {L : jL} {Q1 Q2 : Int64 → jI → jL → Prop} (d176 : DN7 P ZB v0) (kp : KP P ZB IB LB Z I L) (h1 : f_X7_keyAt v0 v1 v2 Z I L Q1) (hq : ∀ (x0 : Int64) (x1 : jI) (x2 : jL), KP P ZB IB LB Z x1 x2 → Q1 x0 x1 x2 → Q2 x0 x1 x2) : f_X7_keyAt v0 v1 v2 Z I L Q2 := by
  unfold f_X7_keyAt at h1 ⊢
  refine ⟨fun c => ?_, fun c => ?_⟩
  · have h1 := h1.1 c
    unfold f_X7_keyAt_b29 at h1 ⊢
    exact hq _ _ _ kp h1
  · have h1 := h1.2 c
    refine loc_X7_sizeAt d176 kp h1 (fun r8 I4 L5 kp h1 => ?_)
    refine ⟨fun c => ?_, fun c => ?_⟩
    · have h1 := h1.1 c
      unfold f_X7_keyAt_b29 at h1 ⊢
      exact hq _ _ _ kp h1
    · have h1 := h1.2 c
      intro b10 eb10
      have h1 := h1 b10 eb10
      have d177 := dn_7 d176 kp (by decide) eb10
      intro b11 eb11
      have h1 := h1 b11 eb11
      have d178 := dn_7 d176 kp (by decide) eb11
      refine ⟨h1.1, ?_⟩
      have h1 := h1.2
      refine ⟨h1.1, ?_⟩
      have h1 := h1.2
      exact hq _ _ _ kp h1
set_option maxHeartbeats 4000000 in
theorem loc_X7_leastJoined_L86 {P : Nat → Prop} {ZB : jZ} {IB : jI} {LB : jL} {Z : jZ} {K31 K31b : Nat → Int32 → Nat → Int32 → Int32 → Int32 → Int32 → Int64 → Int64 → Int32 → jI → jL → Prop} {Q1 Q2 : Int64 → jI → jL → Prop} (hK31 : ∀ (x0 : Nat) (x1 : Int32) (x2 : Nat) (x3 : Int32) (x4 : Int32) (x5 : Int32) (x6 : Int32) (x7 : Int64) (x8 : Int64) (x9 : Int32) (x10 : jI) (x11 : jL), DN7 P ZB x0 → DN7 P ZB x2 → KP P ZB IB LB Z x10 x11 → K31 x0 x1 x2 x3 x4 x5 x6 x7 x8 x9 x10 x11 → K31b x0 x1 x2 x3 x4 x5 x6 x7 x8 x9 x10 x11) (hq : ∀ (x0 : Int64) (x1 : jI) (x2 : jL), KP P ZB IB LB Z x1 x2 → Q1 x0 x1 x2 → Q2 x0 x1 x2) : ∀ (n : Nat) (v0 : Nat) (v1 : Int32) (v2 : Nat) (v3 : Int32) (v4 : Int32) (v5 : Int32) (v6 : Int32) (v7 : Int64) (v9 : Int64) (v11 : Int32) (v12 : Int64) (v14 : Int32) (I : jI) (L : jL), DN7 P ZB v0 → DN7 P ZB v2 → KP P ZB IB LB Z I L → f_X7_leastJoined_L86 K31 Z Q1 n v0 v1 v2 v3 v4 v5 v6 v7 v9 v11 v12 v14 I L → f_X7_leastJoined_L86 K31b Z Q2 n v0 v1 v2 v3 v4 v5 v6 v7 v9 v11 v12 v14 I L := by
  intro n
  induction n with
  | zero => intro v0 v1 v2 v3 v4 v5 v6 v7 v9 v11 v12 v14 I L d183 d184 kp h1; exact h1.elim
  | succ n ih =>
    intro v0 v1 v2 v3 v4 v5 v6 v7 v9 v11 v12 v14 I L d183 d184 kp h1
    unfold f_X7_leastJoined_L86 at h1 ⊢
    refine ⟨fun c => ?_, fun c => ?_⟩
    · have h1 := h1.1 c
      unfold f_X7_leastJoined_b114 at h1 ⊢
      refine ⟨fun c => ?_, fun c => ?_⟩
      · have h1 := h1.1 c
        unfold f_X7_leastJoined_b142 at h1 ⊢
        intro x1 ex1
        have h1 := h1 x1 ex1
        exact hK31 _ _ _ _ _ _ _ _ _ _ _ _ d183 d184 kp h1
      · have h1 := h1.2 c
        refine loc_X7_keyAt d184 kp h1 (fun r9 I5 L6 kp h1 => ?_)
        intro x10 ex10
        have h1 := h1 x10 ex10
        unfold f_X7_leastJoined_b142 at h1 ⊢
        intro x1 ex1
        have h1 := h1 x1 ex1
        exact hK31 _ _ _ _ _ _ _ _ _ _ _ _ d183 d184 kp h1
    · have h1 := h1.2 c
      refine loc_X7_keyAt d184 kp h1 (fun r18 I14 L15 kp h1 => ?_)
      refine loc_X11_effortIn  kp h1 (fun r25 I21 L22 kp h1 => ?_)
      refine ⟨fun c => ?_, fun c => ?_⟩
      · have h1 := h1.1 c
        unfold f_X7_leastJoined_b114 at h1 ⊢
        refine ⟨fun c => ?_, fun c => ?_⟩
        · have h1 := h1.1 c
          unfold f_X7_leastJoined_b142 at h1 ⊢
          intro x1 ex1
          have h1 := h1 x1 ex1
          exact hK31 _ _ _ _ _ _ _ _ _ _ _ _ d183 d184 kp h1
        · have h1 := h1.2 c
          refine loc_X7_keyAt d184 kp h1 (fun r9 I5 L6 kp h1 => ?_)
          intro x10 ex10
          have h1 := h1 x10 ex10
          unfold f_X7_leastJoined_b142 at h1 ⊢
          intro x1 ex1
          have h1 := h1 x1 ex1
          exact hK31 _ _ _ _ _ _ _ _ _ _ _ _ d183 d184 kp h1
      · have h1 := h1.2 c
        intro x27 ex27
        have h1 := h1 x27 ex27
        exact ih _ _ _ _ _ _ _ _ _ _ _ _ _ _ d183 d184 kp h1
set_option maxHeartbeats 4000000 in
theorem loc_X7_leastJoined_L31 {P : Nat → Prop} {ZB : jZ} {IB : jI} {LB : jL} {Z : jZ} {Q1 Q2 : Int64 → jI → jL → Prop} (hq : ∀ (x0 : Int64) (x1 : jI) (x2 : jL), KP P ZB IB LB Z x1 x2 → Q1 x0 x1 x2 → Q2 x0 x1 x2) : ∀ (n : Nat) (v0 : Nat) (v1 : Int32) (v2 : Nat) (v3 : Int32) (v4 : Int32) (v5 : Int32) (v6 : Int32) (v7 : Int64) (v9 : Int64) (v11 : Int32) (I : jI) (L : jL), DN7 P ZB v0 → DN7 P ZB v2 → KP P ZB IB LB Z I L → f_X7_leastJoined_L31 Z Q1 n v0 v1 v2 v3 v4 v5 v6 v7 v9 v11 I L → f_X7_leastJoined_L31 Z Q2 n v0 v1 v2 v3 v4 v5 v6 v7 v9 v11 I L := by
  intro n
  induction n with
  | zero => intro v0 v1 v2 v3 v4 v5 v6 v7 v9 v11 I L d179 d180 kp h1; exact h1.elim
  | succ n ih =>
    intro v0 v1 v2 v3 v4 v5 v6 v7 v9 v11 I L d179 d180 kp h1
    unfold f_X7_leastJoined_L31 at h1 ⊢
    refine loc_X7_sizeAt d179 kp h1 (fun r34 I30 L31 kp h1 => ?_)
    refine ⟨fun c => ?_, fun c => ?_⟩
    · have h1 := h1.1 c
      unfold f_X7_leastJoined_b148 at h1 ⊢
      exact hq _ _ _ kp h1
    · have h1 := h1.2 c
      refine ⟨fun c => ?_, fun c => ?_⟩
      · have h1 := h1.1 c
        unfold f_X7_leastJoined_b148 at h1 ⊢
        exact hq _ _ _ kp h1
      · have h1 := h1.2 c
        intro b37 eb37
        have h1 := h1 b37 eb37
        have d181 := dn_7 d179 kp (by decide) eb37
        intro b38 eb38
        have h1 := h1 b38 eb38
        have d182 := dn_7 d179 kp (by decide) eb38
        refine ⟨h1.1, ?_⟩
        have h1 := h1.2
        refine ⟨h1.1, ?_⟩
        have h1 := h1.2
        intro x41 ex41
        have h1 := h1 x41 ex41
        refine ⟨fun c => ?_, fun c => ?_⟩
        · have h1 := h1.1 c
          refine loc_X11_effortIn  kp h1 (fun r49 I45 L46 kp h1 => ?_)
          intro x50 ex50
          have h1 := h1 x50 ex50
          obtain ⟨n1, h1⟩ := h1
          exact ⟨n1, loc_X7_leastJoined_L86 (fun _ _ _ _ _ _ _ _ _ _ _ _ g0 g1 kp h => ih _ _ _ _ _ _ _ _ _ _ _ _ g0 g1 kp h) hq n1 _ _ _ _ _ _ _ _ _ _ _ _ _ _ d179 d180 kp h1⟩
        · have h1 := h1.2 c
          exact hq _ _ _ kp h1
set_option maxHeartbeats 4000000 in
theorem loc_X7_leastJoined {P : Nat → Prop} {ZB : jZ} {IB : jI} {LB : jL} {v0 : Nat} {v1 : Int32} {v2 : Nat} {v3 : Int32} {v4 : Int32} {Z : jZ} {I : jI} {L : jL} {Q1 Q2 : Int64 → jI → jL → Prop} (d174 : DN7 P ZB v0) (d175 : DN7 P ZB v2) (kp : KP P ZB IB LB Z I L) (h1 : f_X7_leastJoined v0 v1 v2 v3 v4 Z I L Q1) (hq : ∀ (x0 : Int64) (x1 : jI) (x2 : jL), KP P ZB IB LB Z x1 x2 → Q1 x0 x1 x2 → Q2 x0 x1 x2) : f_X7_leastJoined v0 v1 v2 v3 v4 Z I L Q2 := by
  unfold f_X7_leastJoined at h1 ⊢
  refine loc_X7_sizeAt d175 kp h1 (fun r58 I54 L55 kp h1 => ?_)
  refine loc_X7_keyAt d175 kp h1 (fun r65 I61 L62 kp h1 => ?_)
  intro x66 ex66
  have h1 := h1 x66 ex66
  obtain ⟨n1, h1⟩ := h1
  exact ⟨n1, loc_X7_leastJoined_L31  hq n1 _ _ _ _ _ _ _ _ _ _ _ _ d174 d175 kp h1⟩
set_option maxHeartbeats 4000000 in
theorem loc_X3_names {P : Nat → Prop} {ZB : jZ} {IB : jI} {LB : jL} {v0 : Nat} {v1 : Int32} {Z : jZ} {I : jI} {L : jL} {Q1 Q2 : Int32 → jI → jL → Prop} (d196 : DN3 P ZB v0) (kp : KP P ZB IB LB Z I L) (h1 : f_X3_names v0 v1 Z I L Q1) (hq : ∀ (x0 : Int32) (x1 : jI) (x2 : jL), KP P ZB IB LB Z x1 x2 → Q1 x0 x1 x2 → Q2 x0 x1 x2) : f_X3_names v0 v1 Z I L Q2 := by
  unfold f_X3_names at h1 ⊢
  refine loc_X3_isTold d196 kp h1 (fun r7 I3 L4 kp h1 => ?_)
  refine ⟨fun c => ?_, fun c => ?_⟩
  · have h1 := h1.1 c
    exact hq _ _ _ kp h1
  · have h1 := h1.2 c
    refine ⟨fun c => ?_, fun c => ?_⟩
    · have h1 := h1.1 c
      exact hq _ _ _ kp h1
    · have h1 := h1.2 c
      exact hq _ _ _ kp h1
set_option maxHeartbeats 4000000 in
theorem loc_X8_pricesInto_L79 {P : Nat → Prop} {ZB : jZ} {IB : jI} {LB : jL} {Z : jZ} {Q1 Q2 : jI → jL → Prop} (hq : ∀ (x0 : jI) (x1 : jL), KP P ZB IB LB Z x0 x1 → Q1 x0 x1 → Q2 x0 x1) : ∀ (n : Nat) (v0 : Nat) (v1 : Nat) (v7 : Nat) (v8 : Int32) (v9 : Int32) (v10 : Int32) (I : jI) (L : jL), DN8 P ZB v0 → ¬ P v1 → DN3 P ZB v7 → KP P ZB IB LB Z I L → f_X8_pricesInto_L79 Z Q1 n v0 v1 v7 v8 v9 v10 I L → f_X8_pricesInto_L79 Z Q2 n v0 v1 v7 v8 v9 v10 I L := by
  intro n
  induction n with
  | zero => intro v0 v1 v7 v8 v9 v10 I L d192 d193 d194 kp h1; exact h1.elim
  | succ n ih =>
    intro v0 v1 v7 v8 v9 v10 I L d192 d193 d194 kp h1
    unfold f_X8_pricesInto_L79 at h1 ⊢
    refine ⟨fun c => ?_, fun c => ?_⟩
    · have h1 := h1.1 c
      exact hq _ _ kp h1
    · have h1 := h1.2 c
      intro b5 eb5
      have h1 := h1 b5 eb5
      have d195 := dn_8 d192 kp (by decide) eb5
      intro I6 eI6
      have h1 := h1 I6 eI6
      have kp := KP.wI kp d195 eI6
      refine ⟨fun c => ?_, fun c => ?_⟩
      · have h1 := h1.1 c
        refine loc_X3_names d194 kp h1 (fun r14 I10 L11 kp h1 => ?_)
        refine ⟨fun c => ?_, fun c => ?_⟩
        · have h1 := h1.1 c
          unfold f_X8_pricesInto_b130 at h1 ⊢
          refine ⟨h1.1, ?_⟩
          have h1 := h1.2
          intro I2 eI2
          have h1 := h1 I2 eI2
          have kp := KP.wI kp d193 eI2
          intro x3 ex3
          have h1 := h1 x3 ex3
          exact ih _ _ _ _ _ _ _ _ d192 d193 d194 kp h1
        · have h1 := h1.2 c
          intro b16 eb16
          have h1 := h1 b16 eb16
          have d197 := dn_8 d192 kp (by decide) eb16
          refine loc_X3_priceFor d194 d197 kp h1 (fun r23 I19 L20 kp h1 => ?_)
          unfold f_X8_pricesInto_b130 at h1 ⊢
          refine ⟨h1.1, ?_⟩
          have h1 := h1.2
          intro I2 eI2
          have h1 := h1 I2 eI2
          have kp := KP.wI kp d193 eI2
          intro x3 ex3
          have h1 := h1 x3 ex3
          exact ih _ _ _ _ _ _ _ _ d192 d193 d194 kp h1
      · have h1 := h1.2 c
        unfold f_X8_pricesInto_b130 at h1 ⊢
        refine ⟨h1.1, ?_⟩
        have h1 := h1.2
        intro I2 eI2
        have h1 := h1 I2 eI2
        have kp := KP.wI kp d193 eI2
        intro x3 ex3
        have h1 := h1 x3 ex3
        exact ih _ _ _ _ _ _ _ _ d192 d193 d194 kp h1
set_option maxHeartbeats 4000000 in
theorem loc_X8_pricesInto {P : Nat → Prop} {ZB : jZ} {IB : jI} {LB : jL} {v0 : Nat} {v1 : Nat} {v2 : Int32} {v3 : Int32} {v4 : Int32} {v5 : Int32} {v6 : Int32} {Z : jZ} {I : jI} {L : jL} {Q1 Q2 : jI → jL → Prop} (d188 : DN8 P ZB v0) (d189 : ¬ P v1) (kp : KP P ZB IB LB Z I L) (h1 : f_X8_pricesInto v0 v1 v2 v3 v4 v5 v6 Z I L Q1) (hq : ∀ (x0 : jI) (x1 : jL), KP P ZB IB LB Z x0 x1 → Q1 x0 x1 → Q2 x0 x1) : f_X8_pricesInto v0 v1 v2 v3 v4 v5 v6 Z I L Q2 := by
  unfold f_X8_pricesInto at h1 ⊢
  refine ⟨fun c => ?_, fun c => ?_⟩
  · have h1 := h1.1 c
    intro b60 eb60
    have h1 := h1 b60 eb60
    have d190 := dn_8_3 d188 kp (by decide) eb60
    unfold f_X8_pricesInto_b15 at h1 ⊢
    refine loc_X8_has d188 kp h1 (fun r45 I41 L42 kp h1 => ?_)
    refine ⟨fun c => ?_, fun c => ?_⟩
    · have h1 := h1.1 c
      refine ⟨fun c => ?_, fun c => ?_⟩
      · have h1 := h1.1 c
        unfold f_X8_pricesInto_b51 at h1 ⊢
        unfold f_X8_pricesInto_b52 at h1 ⊢
        refine loc_X8_putLetters d188 kp h1 (fun I26 L27 kp h1 => ?_)
        intro b30 eb30
        have h1 := h1 b30 eb30
        have d191 := dn_8 d188 kp (by decide) eb30
        refine loc_X3_priceFor d190 d191 kp h1 (fun r37 I33 L34 kp h1 => ?_)
        obtain ⟨n1, h1⟩ := h1
        exact ⟨n1, loc_X8_pricesInto_L79  hq n1 _ _ _ _ _ _ _ _ d188 d189 d190 kp h1⟩
      · have h1 := h1.2 c
        refine loc_X3_isTold d190 kp h1 (fun r54 I50 L51 kp h1 => ?_)
        refine ⟨fun c => ?_, fun c => ?_⟩
        · have h1 := h1.1 c
          unfold f_X8_pricesInto_b51 at h1 ⊢
          unfold f_X8_pricesInto_b52 at h1 ⊢
          refine loc_X8_putLetters d188 kp h1 (fun I26 L27 kp h1 => ?_)
          intro b30 eb30
          have h1 := h1 b30 eb30
          have d198 := dn_8 d188 kp (by decide) eb30
          refine loc_X3_priceFor d190 d198 kp h1 (fun r37 I33 L34 kp h1 => ?_)
          obtain ⟨n1, h1⟩ := h1
          exact ⟨n1, loc_X8_pricesInto_L79  hq n1 _ _ _ _ _ _ _ _ d188 d189 d190 kp h1⟩
        · have h1 := h1.2 c
          intro b56 eb56
          have h1 := h1 b56 eb56
          have d199 := dn_8 d188 kp (by decide) eb56
          refine ⟨h1.1, ?_⟩
          have h1 := h1.2
          refine ⟨fun c => ?_, fun c => ?_⟩
          · have h1 := h1.1 c
            unfold f_X8_pricesInto_b51 at h1 ⊢
            unfold f_X8_pricesInto_b52 at h1 ⊢
            refine loc_X8_putLetters d188 kp h1 (fun I26 L27 kp h1 => ?_)
            intro b30 eb30
            have h1 := h1 b30 eb30
            have d200 := dn_8 d188 kp (by decide) eb30
            refine loc_X3_priceFor d190 d200 kp h1 (fun r37 I33 L34 kp h1 => ?_)
            obtain ⟨n1, h1⟩ := h1
            exact ⟨n1, loc_X8_pricesInto_L79  hq n1 _ _ _ _ _ _ _ _ d188 d189 d190 kp h1⟩
          · have h1 := h1.2 c
            unfold f_X8_pricesInto_b52 at h1 ⊢
            refine loc_X8_putLetters d188 kp h1 (fun I26 L27 kp h1 => ?_)
            intro b30 eb30
            have h1 := h1 b30 eb30
            have d201 := dn_8 d188 kp (by decide) eb30
            refine loc_X3_priceFor d190 d201 kp h1 (fun r37 I33 L34 kp h1 => ?_)
            obtain ⟨n1, h1⟩ := h1
            exact ⟨n1, loc_X8_pricesInto_L79  hq n1 _ _ _ _ _ _ _ _ d188 d189 d190 kp h1⟩
    · have h1 := h1.2 c
      exact hq _ _ kp h1
  · have h1 := h1.2 c
    intro b61 eb61
    have h1 := h1 b61 eb61
    have d202 := dn_8_3 d188 kp (by decide) eb61
    unfold f_X8_pricesInto_b15 at h1 ⊢
    refine loc_X8_has d188 kp h1 (fun r45 I41 L42 kp h1 => ?_)
    refine ⟨fun c => ?_, fun c => ?_⟩
    · have h1 := h1.1 c
      refine ⟨fun c => ?_, fun c => ?_⟩
      · have h1 := h1.1 c
        unfold f_X8_pricesInto_b51 at h1 ⊢
        unfold f_X8_pricesInto_b52 at h1 ⊢
        refine loc_X8_putLetters d188 kp h1 (fun I26 L27 kp h1 => ?_)
        intro b30 eb30
        have h1 := h1 b30 eb30
        have d203 := dn_8 d188 kp (by decide) eb30
        refine loc_X3_priceFor d202 d203 kp h1 (fun r37 I33 L34 kp h1 => ?_)
        obtain ⟨n1, h1⟩ := h1
        exact ⟨n1, loc_X8_pricesInto_L79  hq n1 _ _ _ _ _ _ _ _ d188 d189 d202 kp h1⟩
      · have h1 := h1.2 c
        refine loc_X3_isTold d202 kp h1 (fun r54 I50 L51 kp h1 => ?_)
        refine ⟨fun c => ?_, fun c => ?_⟩
        · have h1 := h1.1 c
          unfold f_X8_pricesInto_b51 at h1 ⊢
          unfold f_X8_pricesInto_b52 at h1 ⊢
          refine loc_X8_putLetters d188 kp h1 (fun I26 L27 kp h1 => ?_)
          intro b30 eb30
          have h1 := h1 b30 eb30
          have d204 := dn_8 d188 kp (by decide) eb30
          refine loc_X3_priceFor d202 d204 kp h1 (fun r37 I33 L34 kp h1 => ?_)
          obtain ⟨n1, h1⟩ := h1
          exact ⟨n1, loc_X8_pricesInto_L79  hq n1 _ _ _ _ _ _ _ _ d188 d189 d202 kp h1⟩
        · have h1 := h1.2 c
          intro b56 eb56
          have h1 := h1 b56 eb56
          have d205 := dn_8 d188 kp (by decide) eb56
          refine ⟨h1.1, ?_⟩
          have h1 := h1.2
          refine ⟨fun c => ?_, fun c => ?_⟩
          · have h1 := h1.1 c
            unfold f_X8_pricesInto_b51 at h1 ⊢
            unfold f_X8_pricesInto_b52 at h1 ⊢
            refine loc_X8_putLetters d188 kp h1 (fun I26 L27 kp h1 => ?_)
            intro b30 eb30
            have h1 := h1 b30 eb30
            have d206 := dn_8 d188 kp (by decide) eb30
            refine loc_X3_priceFor d202 d206 kp h1 (fun r37 I33 L34 kp h1 => ?_)
            obtain ⟨n1, h1⟩ := h1
            exact ⟨n1, loc_X8_pricesInto_L79  hq n1 _ _ _ _ _ _ _ _ d188 d189 d202 kp h1⟩
          · have h1 := h1.2 c
            unfold f_X8_pricesInto_b52 at h1 ⊢
            refine loc_X8_putLetters d188 kp h1 (fun I26 L27 kp h1 => ?_)
            intro b30 eb30
            have h1 := h1 b30 eb30
            have d207 := dn_8 d188 kp (by decide) eb30
            refine loc_X3_priceFor d202 d207 kp h1 (fun r37 I33 L34 kp h1 => ?_)
            obtain ⟨n1, h1⟩ := h1
            exact ⟨n1, loc_X8_pricesInto_L79  hq n1 _ _ _ _ _ _ _ _ d188 d189 d202 kp h1⟩
    · have h1 := h1.2 c
      exact hq _ _ kp h1
set_option maxHeartbeats 4000000 in
theorem loc_X11_isAsked {P : Nat → Prop} {ZB : jZ} {IB : jI} {LB : jL} {v0 : Int32} {Z : jZ} {I : jI} {L : jL} {Q1 Q2 : Int32 → jI → jL → Prop} (kp : KP P ZB IB LB Z I L) (h1 : f_X11_isAsked v0 Z I L Q1) (hq : ∀ (x0 : Int32) (x1 : jI) (x2 : jL), KP P ZB IB LB Z x1 x2 → Q1 x0 x1 x2 → Q2 x0 x1 x2) : f_X11_isAsked v0 Z I L Q2 := by
  unfold f_X11_isAsked at h1 ⊢
  refine ⟨fun c => ?_, fun c => ?_⟩
  · have h1 := h1.1 c
    exact hq _ _ _ kp h1
  · have h1 := h1.2 c
    refine ⟨fun c => ?_, fun c => ?_⟩
    · have h1 := h1.1 c
      exact hq _ _ _ kp h1
    · have h1 := h1.2 c
      exact hq _ _ _ kp h1
set_option maxHeartbeats 4000000 in
theorem loc_X6_offerBy_L150 {P : Nat → Prop} {ZB : jZ} {IB : jI} {LB : jL} {Z : jZ} {Q1 Q2 : jI → jL → Prop} (hq : ∀ (x0 : jI) (x1 : jL), KP P ZB IB LB Z x0 x1 → Q1 x0 x1 → Q2 x0 x1) : ∀ (n : Nat) (v0 : Nat) (v10 : Int64) (v12 : Int32) (I : jI) (L : jL), DN6 P ZB v0 → KP P ZB IB LB Z I L → f_X6_offerBy_L150 Z Q1 n v0 v10 v12 I L → f_X6_offerBy_L150 Z Q2 n v0 v10 v12 I L := by
  intro n
  induction n with
  | zero => intro v0 v10 v12 I L d210 kp h1; exact h1.elim
  | succ n ih =>
    intro v0 v10 v12 I L d210 kp h1
    unfold f_X6_offerBy_L150 at h1 ⊢
    refine ⟨fun c => ?_, fun c => ?_⟩
    · have h1 := h1.1 c
      exact hq _ _ kp h1
    · have h1 := h1.2 c
      intro b3 eb3
      have h1 := h1 b3 eb3
      have d211 := dn_6 d210 kp (by decide) eb3
      refine ⟨h1.1, ?_⟩
      have h1 := h1.2
      intro x5 ex5
      have h1 := h1 x5 ex5
      intro b6 eb6
      have h1 := h1 b6 eb6
      have d212 := dn_6 d210 kp (by decide) eb6
      refine ⟨h1.1, ?_⟩
      have h1 := h1.2
      refine ⟨fun c => ?_, fun c => ?_⟩
      · have h1 := h1.1 c
        unfold f_X6_offerBy_b209 at h1 ⊢
        intro x1 ex1
        have h1 := h1 x1 ex1
        exact ih _ _ _ _ _ d210 kp h1
      · have h1 := h1.2 c
        intro b9 eb9
        have h1 := h1 b9 eb9
        have d213 := dn_6 d210 kp (by decide) eb9
        refine ⟨h1.1, ?_⟩
        have h1 := h1.2
        intro L11 eL11
        have h1 := h1 L11 eL11
        have kp := KP.wL kp d213 eL11
        intro b12 eb12
        have h1 := h1 b12 eb12
        have d214 := dn_6 d210 kp (by decide) eb12
        intro b13 eb13
        have h1 := h1 b13 eb13
        have d215 := dn_6 d210 kp (by decide) eb13
        refine ⟨h1.1, ?_⟩
        have h1 := h1.2
        refine ⟨h1.1, ?_⟩
        have h1 := h1.2
        intro I16 eI16
        have h1 := h1 I16 eI16
        have kp := KP.wI kp d214 eI16
        unfold f_X6_offerBy_b209 at h1 ⊢
        intro x1 ex1
        have h1 := h1 x1 ex1
        exact ih _ _ _ _ _ d210 kp h1
set_option maxHeartbeats 4000000 in
theorem loc_X6_offerBy {P : Nat → Prop} {ZB : jZ} {IB : jI} {LB : jL} {v0 : Nat} {v1 : Int32} {v2 : Int32} {v3 : Int32} {Z : jZ} {I : jI} {L : jL} {Q1 Q2 : jI → jL → Prop} (d170 : DN6 P ZB v0) (kp : KP P ZB IB LB Z I L) (h1 : f_X6_offerBy v0 v1 v2 v3 Z I L Q1) (hq : ∀ (x0 : jI) (x1 : jL), KP P ZB IB LB Z x0 x1 → Q1 x0 x1 → Q2 x0 x1) : f_X6_offerBy v0 v1 v2 v3 Z I L Q2 := by
  unfold f_X6_offerBy at h1 ⊢
  intro x48 ex48
  have h1 := h1 x48 ex48
  intro b49 eb49
  have h1 := h1 b49 eb49
  have d171 := dn_6_7 d170 kp (by decide) eb49
  intro b50 eb50
  have h1 := h1 b50 eb50
  have d172 := dn_6_7 d170 kp (by decide) eb50
  intro b51 eb51
  have h1 := h1 b51 eb51
  have d173 := dn_6 d170 kp (by decide) eb51
  refine loc_X6_moveTo  kp h1 (fun r58 I54 L55 kp h1 => ?_)
  refine ⟨h1.1, ?_⟩
  have h1 := h1.2
  refine loc_X7_leastJoined d171 d172 kp h1 (fun r66 I62 L63 kp h1 => ?_)
  refine ⟨fun c => ?_, fun c => ?_⟩
  · have h1 := h1.1 c
    exact hq _ _ kp h1
  · have h1 := h1.2 c
    intro b68 eb68
    have h1 := h1 b68 eb68
    have d185 := dn_6_8 d170 kp eb68
    refine loc_X8_has d185 kp h1 (fun r75 I71 L72 kp h1 => ?_)
    refine ⟨fun c => ?_, fun c => ?_⟩
    · have h1 := h1.1 c
      refine ⟨fun c => ?_, fun c => ?_⟩
      · have h1 := h1.1 c
        unfold f_X6_offerBy_b69 at h1 ⊢
        intro b26 eb26
        have h1 := h1 b26 eb26
        have d186 := dn_6_8 d170 kp eb26
        intro b27 eb27
        have h1 := h1 b27 eb27
        have d187 := dn_6 d170 kp (by decide) eb27
        refine loc_X8_pricesInto d186 d187 kp h1 (fun I30 L31 kp h1 => ?_)
        intro b34 eb34
        have h1 := h1 b34 eb34
        have d208 := dn_6_8 d170 kp eb34
        intro b35 eb35
        have h1 := h1 b35 eb35
        have d209 := dn_8 d208 kp (by decide) eb35
        refine ⟨h1.1, ?_⟩
        have h1 := h1.2
        intro x37 ex37
        have h1 := h1 x37 ex37
        refine loc_X11_isAsked  kp h1 (fun r44 I40 L41 kp h1 => ?_)
        refine ⟨fun c => ?_, fun c => ?_⟩
        · have h1 := h1.1 c
          unfold f_X6_offerBy_b126 at h1 ⊢
          refine loc_X6_keyOf d170 kp h1 (fun r23 I19 L20 kp h1 => ?_)
          intro x24 ex24
          have h1 := h1 x24 ex24
          obtain ⟨n1, h1⟩ := h1
          exact ⟨n1, loc_X6_offerBy_L150  hq n1 _ _ _ _ _ d170 kp h1⟩
        · have h1 := h1.2 c
          intro b46 eb46
          have h1 := h1 b46 eb46
          have d216 := dn_6 d170 kp (by decide) eb46
          refine ⟨h1.1, ?_⟩
          have h1 := h1.2
          unfold f_X6_offerBy_b126 at h1 ⊢
          refine loc_X6_keyOf d170 kp h1 (fun r23 I19 L20 kp h1 => ?_)
          intro x24 ex24
          have h1 := h1 x24 ex24
          obtain ⟨n1, h1⟩ := h1
          exact ⟨n1, loc_X6_offerBy_L150  hq n1 _ _ _ _ _ d170 kp h1⟩
      · have h1 := h1.2 c
        unfold f_X6_offerBy_b69 at h1 ⊢
        intro b26 eb26
        have h1 := h1 b26 eb26
        have d217 := dn_6_8 d170 kp eb26
        intro b27 eb27
        have h1 := h1 b27 eb27
        have d218 := dn_6 d170 kp (by decide) eb27
        refine loc_X8_pricesInto d217 d218 kp h1 (fun I30 L31 kp h1 => ?_)
        intro b34 eb34
        have h1 := h1 b34 eb34
        have d219 := dn_6_8 d170 kp eb34
        intro b35 eb35
        have h1 := h1 b35 eb35
        have d220 := dn_8 d219 kp (by decide) eb35
        refine ⟨h1.1, ?_⟩
        have h1 := h1.2
        intro x37 ex37
        have h1 := h1 x37 ex37
        refine loc_X11_isAsked  kp h1 (fun r44 I40 L41 kp h1 => ?_)
        refine ⟨fun c => ?_, fun c => ?_⟩
        · have h1 := h1.1 c
          unfold f_X6_offerBy_b126 at h1 ⊢
          refine loc_X6_keyOf d170 kp h1 (fun r23 I19 L20 kp h1 => ?_)
          intro x24 ex24
          have h1 := h1 x24 ex24
          obtain ⟨n1, h1⟩ := h1
          exact ⟨n1, loc_X6_offerBy_L150  hq n1 _ _ _ _ _ d170 kp h1⟩
        · have h1 := h1.2 c
          intro b46 eb46
          have h1 := h1 b46 eb46
          have d221 := dn_6 d170 kp (by decide) eb46
          refine ⟨h1.1, ?_⟩
          have h1 := h1.2
          unfold f_X6_offerBy_b126 at h1 ⊢
          refine loc_X6_keyOf d170 kp h1 (fun r23 I19 L20 kp h1 => ?_)
          intro x24 ex24
          have h1 := h1 x24 ex24
          obtain ⟨n1, h1⟩ := h1
          exact ⟨n1, loc_X6_offerBy_L150  hq n1 _ _ _ _ _ d170 kp h1⟩
    · have h1 := h1.2 c
      exact hq _ _ kp h1
set_option maxHeartbeats 4000000 in
theorem loc_X6_addOffers_L48 {P : Nat → Prop} {ZB : jZ} {IB : jI} {LB : jL} {Z : jZ} {K15 K15b : Nat → Int32 → Nat → Nat → Int32 → jI → jL → Prop} {Q1 Q2 : jI → jL → Prop} (hK15 : ∀ (x0 : Nat) (x1 : Int32) (x2 : Nat) (x3 : Nat) (x4 : Int32) (x5 : jI) (x6 : jL), DN6 P ZB x0 → ¬ P x2 → ¬ P x3 → KP P ZB IB LB Z x5 x6 → K15 x0 x1 x2 x3 x4 x5 x6 → K15b x0 x1 x2 x3 x4 x5 x6) (hq : ∀ (x0 : jI) (x1 : jL), KP P ZB IB LB Z x0 x1 → Q1 x0 x1 → Q2 x0 x1) : ∀ (n : Nat) (v0 : Nat) (v1 : Int32) (v2 : Nat) (v3 : Nat) (v4 : Int32) (v5 : Int32) (I : jI) (L : jL), DN6 P ZB v0 → ¬ P v2 → ¬ P v3 → KP P ZB IB LB Z I L → f_X6_addOffers_L48 K15 Z Q1 n v0 v1 v2 v3 v4 v5 I L → f_X6_addOffers_L48 K15b Z Q2 n v0 v1 v2 v3 v4 v5 I L := by
  intro n
  induction n with
  | zero => intro v0 v1 v2 v3 v4 v5 I L d166 d167 d168 kp h1; exact h1.elim
  | succ n ih =>
    intro v0 v1 v2 v3 v4 v5 I L d166 d167 d168 kp h1
    unfold f_X6_addOffers_L48 at h1 ⊢
    refine ⟨fun c => ?_, fun c => ?_⟩
    · have h1 := h1.1 c
      unfold f_X6_addOffers_b79 at h1 ⊢
      intro x25 ex25
      have h1 := h1 x25 ex25
      exact hK15 _ _ _ _ _ _ _ d166 d167 d168 kp h1
    · have h1 := h1.2 c
      intro b27 eb27
      have h1 := h1 b27 eb27
      have d169 := dn_6 d166 kp (by decide) eb27
      refine ⟨h1.1, ?_⟩
      have h1 := h1.2
      refine ⟨fun c => ?_, fun c => ?_⟩
      · have h1 := h1.1 c
        unfold f_X6_addOffers_b79 at h1 ⊢
        intro x25 ex25
        have h1 := h1 x25 ex25
        exact hK15 _ _ _ _ _ _ _ d166 d167 d168 kp h1
      · have h1 := h1.2 c
        refine loc_X6_offerBy d166 kp h1 (fun I32 L33 kp h1 => ?_)
        intro x36 ex36
        have h1 := h1 x36 ex36
        exact ih _ _ _ _ _ _ _ _ d166 d167 d168 kp h1
set_option maxHeartbeats 4000000 in
theorem loc_X6_addOffers_L15 {P : Nat → Prop} {ZB : jZ} {IB : jI} {LB : jL} {Z : jZ} {Q1 Q2 : jI → jL → Prop} (hq : ∀ (x0 : jI) (x1 : jL), KP P ZB IB LB Z x0 x1 → Q1 x0 x1 → Q2 x0 x1) : ∀ (n : Nat) (v0 : Nat) (v1 : Int32) (v2 : Nat) (v3 : Nat) (v4 : Int32) (I : jI) (L : jL), DN6 P ZB v0 → ¬ P v2 → ¬ P v3 → KP P ZB IB LB Z I L → f_X6_addOffers_L15 Z Q1 n v0 v1 v2 v3 v4 I L → f_X6_addOffers_L15 Z Q2 n v0 v1 v2 v3 v4 I L := by
  intro n
  induction n with
  | zero => intro v0 v1 v2 v3 v4 I L d157 d158 d159 kp h1; exact h1.elim
  | succ n ih =>
    intro v0 v1 v2 v3 v4 I L d157 d158 d159 kp h1
    unfold f_X6_addOffers_L15 at h1 ⊢
    refine ⟨fun c => ?_, fun c => ?_⟩
    · have h1 := h1.1 c
      unfold f_X6_addOffers_b85 at h1 ⊢
      obtain ⟨n1, h1⟩ := h1
      exact ⟨n1, loc_X6_addOffers_L88  hq n1 _ _ _ _ _ _ d157 d158 d159 kp h1⟩
    · have h1 := h1.2 c
      refine ⟨fun c => ?_, fun c => ?_⟩
      · have h1 := h1.1 c
        unfold f_X6_addOffers_b85 at h1 ⊢
        obtain ⟨n1, h1⟩ := h1
        exact ⟨n1, loc_X6_addOffers_L88  hq n1 _ _ _ _ _ _ d157 d158 d159 kp h1⟩
      · have h1 := h1.2 c
        intro x39 ex39
        have h1 := h1 x39 ex39
        obtain ⟨n1, h1⟩ := h1
        exact ⟨n1, loc_X6_addOffers_L48 (fun _ _ _ _ _ _ _ g0 g1 g2 kp h => ih _ _ _ _ _ _ _ g0 g1 g2 kp h) hq n1 _ _ _ _ _ _ _ _ d157 d158 d159 kp h1⟩
set_option maxHeartbeats 4000000 in
theorem loc_X6_addOffers {P : Nat → Prop} {ZB : jZ} {IB : jI} {LB : jL} {v0 : Nat} {v1 : Int32} {v2 : Nat} {v3 : Nat} {Z : jZ} {I : jI} {L : jL} {Q1 Q2 : jI → jL → Prop} (d151 : DN6 P ZB v0) (d152 : ¬ P v2) (d153 : ¬ P v3) (kp : KP P ZB IB LB Z I L) (h1 : f_X6_addOffers v0 v1 v2 v3 Z I L Q1) (hq : ∀ (x0 : jI) (x1 : jL), KP P ZB IB LB Z x0 x1 → Q1 x0 x1 → Q2 x0 x1) : f_X6_addOffers v0 v1 v2 v3 Z I L Q2 := by
  unfold f_X6_addOffers at h1 ⊢
  intro b41 eb41
  have h1 := h1 b41 eb41
  have d154 := dn_6 d151 kp (by decide) eb41
  refine loc_J7_fill_d0a16 d154 kp h1 (fun I44 L45 kp h1 => ?_)
  intro x48 ex48
  have h1 := h1 x48 ex48
  obtain ⟨n1, h1⟩ := h1
  exact ⟨n1, loc_X6_addOffers_L15  hq n1 _ _ _ _ _ _ _ d151 d152 d153 kp h1⟩
/-! ===== cells that are not reached: the methods of a pilgrim's routes ===== -/
set_option maxHeartbeats 4000000 in
theorem loc9_X7_start {P : Nat → Prop} {ZB : jZ} {IB : jI} {LB : jL} {v0 : Nat} {v1 : Int32} {Z : jZ} {I : jI} {L : jL} {Q1 Q2 : jI → jL → Prop} (d7 : DN7 P ZB v0) (kp : KP P ZB IB LB Z I L) (h1 : f_X7_start v0 v1 Z I L Q1) (hq : ∀ (x0 : jI) (x1 : jL), KP P ZB IB LB Z x0 x1 → Q1 x0 x1 → Q2 x0 x1) : f_X7_start v0 v1 Z I L Q2 := by
  unfold f_X7_start at h1 ⊢
  refine ⟨fun c => ?_, fun c => ?_⟩
  · have h1 := h1.1 c
    unfold f_X7_start_b27 at h1 ⊢
    intro I1 eI1
    have h1 := h1 I1 eI1
    have kp := KP.wI kp d7.2.1 eI1
    intro I2 eI2
    have h1 := h1 I2 eI2
    have kp := KP.wI kp d7.2.1 eI2
    exact hq _ _ kp h1
  · have h1 := h1.2 c
    refine ⟨fun c => ?_, fun c => ?_⟩
    · have h1 := h1.1 c
      unfold f_X7_start_b27 at h1 ⊢
      intro I1 eI1
      have h1 := h1 I1 eI1
      have kp := KP.wI kp d7.2.1 eI1
      intro I2 eI2
      have h1 := h1 I2 eI2
      have kp := KP.wI kp d7.2.1 eI2
      exact hq _ _ kp h1
    · have h1 := h1.2 c
      intro b5 eb5
      have h1 := h1 b5 eb5
      have d8 := dn_7 d7 kp (by decide) eb5
      refine ⟨h1.1, ?_⟩
      have h1 := h1.2
      intro I7 eI7
      have h1 := h1 I7 eI7
      have kp := KP.wI kp d8 eI7
      intro b8 eb8
      have h1 := h1 b8 eb8
      have d9 := dn_7 d7 kp (by decide) eb8
      refine ⟨h1.1, ?_⟩
      have h1 := h1.2
      intro I10 eI10
      have h1 := h1 I10 eI10
      have kp := KP.wI kp d9 eI10
      unfold f_X7_start_b27 at h1 ⊢
      intro I1 eI1
      have h1 := h1 I1 eI1
      have kp := KP.wI kp d7.2.1 eI1
      intro I2 eI2
      have h1 := h1 I2 eI2
      have kp := KP.wI kp d7.2.1 eI2
      exact hq _ _ kp h1
set_option maxHeartbeats 4000000 in
theorem loc9_X6_moveTo {P : Nat → Prop} {ZB : jZ} {IB : jI} {LB : jL} {v0 : Int32} {v1 : Int32} {Z : jZ} {I : jI} {L : jL} {Q1 Q2 : Int32 → jI → jL → Prop} (kp : KP P ZB IB LB Z I L) (h1 : f_X6_moveTo v0 v1 Z I L Q1) (hq : ∀ (x0 : Int32) (x1 : jI) (x2 : jL), KP P ZB IB LB Z x1 x2 → Q1 x0 x1 x2 → Q2 x0 x1 x2) : f_X6_moveTo v0 v1 Z I L Q2 := by
  unfold f_X6_moveTo at h1 ⊢
  exact hq _ _ _ kp h1
set_option maxHeartbeats 4000000 in
theorem loc9_X11_bitOf {P : Nat → Prop} {ZB : jZ} {IB : jI} {LB : jL} {v0 : Int32} {Z : jZ} {I : jI} {L : jL} {Q1 Q2 : Int64 → jI → jL → Prop} (kp : KP P ZB IB LB Z I L) (h1 : f_X11_bitOf v0 Z I L Q1) (hq : ∀ (x0 : Int64) (x1 : jI) (x2 : jL), KP P ZB IB LB Z x1 x2 → Q1 x0 x1 x2 → Q2 x0 x1 x2) : f_X11_bitOf v0 Z I L Q2 := by
  unfold f_X11_bitOf at h1 ⊢
  exact hq _ _ _ kp h1
set_option maxHeartbeats 4000000 in
theorem loc9_X6_keyOf {P : Nat → Prop} {ZB : jZ} {IB : jI} {LB : jL} {v0 : Nat} {v1 : Int32} {v2 : Int32} {Z : jZ} {I : jI} {L : jL} {Q1 Q2 : Int64 → jI → jL → Prop} (d13 : DN9 P ZB v0) (kp : KP P ZB IB LB Z I L) (h1 : f_X6_keyOf v0 v1 v2 Z I L Q1) (hq : ∀ (x0 : Int64) (x1 : jI) (x2 : jL), KP P ZB IB LB Z x1 x2 → Q1 x0 x1 x2 → Q2 x0 x1 x2) : f_X6_keyOf v0 v1 v2 Z I L Q2 := by
  unfold f_X6_keyOf at h1 ⊢
  refine loc9_X6_moveTo  kp h1 (fun r7 I3 L4 kp h1 => ?_)
  intro b8 eb8
  have h1 := h1 b8 eb8
  have d14 := dn_9 d13 kp (by decide) eb8
  refine ⟨h1.1, ?_⟩
  have h1 := h1.2
  intro b10 eb10
  have h1 := h1 b10 eb10
  have d15 := dn_9 d13 kp (by decide) eb10
  refine ⟨h1.1, ?_⟩
  have h1 := h1.2
  refine loc9_X11_bitOf  kp h1 (fun r18 I14 L15 kp h1 => ?_)
  exact hq _ _ _ kp h1
set_option maxHeartbeats 4000000 in
theorem loc9_X7_sizeAt {P : Nat → Prop} {ZB : jZ} {IB : jI} {LB : jL} {v0 : Nat} {v1 : Int32} {Z : jZ} {I : jI} {L : jL} {Q1 Q2 : Int32 → jI → jL → Prop} (d17 : DN7 P ZB v0) (kp : KP P ZB IB LB Z I L) (h1 : f_X7_sizeAt v0 v1 Z I L Q1) (hq : ∀ (x0 : Int32) (x1 : jI) (x2 : jL), KP P ZB IB LB Z x1 x2 → Q1 x0 x1 x2 → Q2 x0 x1 x2) : f_X7_sizeAt v0 v1 Z I L Q2 := by
  unfold f_X7_sizeAt at h1 ⊢
  refine ⟨fun c => ?_, fun c => ?_⟩
  · have h1 := h1.1 c
    exact hq _ _ _ kp h1
  · have h1 := h1.2 c
    refine ⟨fun c => ?_, fun c => ?_⟩
    · have h1 := h1.1 c
      exact hq _ _ _ kp h1
    · have h1 := h1.2 c
      intro b3 eb3
      have h1 := h1 b3 eb3
      have d18 := dn_7 d17 kp (by decide) eb3
      refine ⟨h1.1, ?_⟩
      have h1 := h1.2
      exact hq _ _ _ kp h1
set_option maxHeartbeats 4000000 in
theorem loc9_X7_merge {P : Nat → Prop} {ZB : jZ} {IB : jI} {LB : jL} {v0 : Nat} {v1 : Int32} {v2 : Int64} {Z : jZ} {I : jI} {L : jL} {Q1 Q2 : jI → jL → Prop} (d16 : DN7 P ZB v0) (kp : KP P ZB IB LB Z I L) (h1 : f_X7_merge v0 v1 v2 Z I L Q1) (hq : ∀ (x0 : jI) (x1 : jL), KP P ZB IB LB Z x0 x1 → Q1 x0 x1 → Q2 x0 x1) : f_X7_merge v0 v1 v2 Z I L Q2 := by
  unfold f_X7_merge at h1 ⊢
  refine loc9_X7_sizeAt d16 kp h1 (fun r7 I3 L4 kp h1 => ?_)
  refine ⟨fun c => ?_, fun c => ?_⟩
  · have h1 := h1.1 c
    exact hq _ _ kp h1
  · have h1 := h1.2 c
    refine ⟨fun c => ?_, fun c => ?_⟩
    · have h1 := h1.1 c
      exact hq _ _ kp h1
    · have h1 := h1.2 c
      intro b10 eb10
      have h1 := h1 b10 eb10
      have d19 := dn_7 d16 kp (by decide) eb10
      intro b11 eb11
      have h1 := h1 b11 eb11
      have d20 := dn_7 d16 kp (by decide) eb11
      refine ⟨h1.1, ?_⟩
      have h1 := h1.2
      refine ⟨h1.1, ?_⟩
      have h1 := h1.2
      intro I14 eI14
      have h1 := h1 I14 eI14
      have kp := KP.wI kp d19 eI14
      intro b15 eb15
      have h1 := h1 b15 eb15
      have d21 := dn_7 d16 kp (by decide) eb15
      intro b16 eb16
      have h1 := h1 b16 eb16
      have d22 := dn_7 d16 kp (by decide) eb16
      refine ⟨h1.1, ?_⟩
      have h1 := h1.2
      refine ⟨h1.1, ?_⟩
      have h1 := h1.2
      intro I19 eI19
      have h1 := h1 I19 eI19
      have kp := KP.wI kp d21 eI19
      intro b20 eb20
      have h1 := h1 b20 eb20
      have d23 := dn_7 d16 kp (by decide) eb20
      refine ⟨h1.1, ?_⟩
      have h1 := h1.2
      intro L22 eL22
      have h1 := h1 L22 eL22
      have kp := KP.wL kp d23 eL22
      intro b23 eb23
      have h1 := h1 b23 eb23
      have d24 := dn_7 d16 kp (by decide) eb23
      intro b24 eb24
      have h1 := h1 b24 eb24
      have d25 := dn_7 d16 kp (by decide) eb24
      intro b25 eb25
      have h1 := h1 b25 eb25
      have d26 := dn_7 d16 kp (by decide) eb25
      refine ⟨h1.1, ?_⟩
      have h1 := h1.2
      refine ⟨h1.1, ?_⟩
      have h1 := h1.2
      refine ⟨h1.1, ?_⟩
      have h1 := h1.2
      intro L29 eL29
      have h1 := h1 L29 eL29
      have kp := KP.wL kp d24 eL29
      intro I30 eI30
      have h1 := h1 I30 eI30
      have kp := KP.wI kp d16.2.1 eI30
      intro I31 eI31
      have h1 := h1 I31 eI31
      have kp := KP.wI kp d16.2.1 eI31
      exact hq _ _ kp h1
set_option maxHeartbeats 4000000 in
theorem loc9_X6_feed_L8 {P : Nat → Prop} {ZB : jZ} {IB : jI} {LB : jL} {Z : jZ} {Q1 Q2 : jI → jL → Prop} (hq : ∀ (x0 : jI) (x1 : jL), KP P ZB IB LB Z x0 x1 → Q1 x0 x1 → Q2 x0 x1) : ∀ (n : Nat) (v0 : Nat) (v1 : Nat) (v2 : Int32) (v3 : Int64) (v5 : Int32) (v6 : Int32) (I : jI) (L : jL), DN9 P ZB v0 → DN7 P ZB v1 → KP P ZB IB LB Z I L → f_X6_feed_L8 Z Q1 n v0 v1 v2 v3 v5 v6 I L → f_X6_feed_L8 Z Q2 n v0 v1 v2 v3 v5 v6 I L := by
  intro n
  induction n with
  | zero => intro v0 v1 v2 v3 v5 v6 I L d10 d11 kp h1; exact h1.elim
  | succ n ih =>
    intro v0 v1 v2 v3 v5 v6 I L d10 d11 kp h1
    unfold f_X6_feed_L8 at h1 ⊢
    refine ⟨fun c => ?_, fun c => ?_⟩
    · have h1 := h1.1 c
      exact hq _ _ kp h1
    · have h1 := h1.2 c
      refine ⟨fun c => ?_, fun c => ?_⟩
      · have h1 := h1.1 c
        exact hq _ _ kp h1
      · have h1 := h1.2 c
        intro b18 eb18
        have h1 := h1 b18 eb18
        have d12 := dn_9 d10 kp (by decide) eb18
        refine ⟨h1.1, ?_⟩
        have h1 := h1.2
        refine ⟨fun c => ?_, fun c => ?_⟩
        · have h1 := h1.1 c
          exact hq _ _ kp h1
        · have h1 := h1.2 c
          refine ⟨fun c => ?_, fun c => ?_⟩
          · have h1 := h1.1 c
            unfold f_X6_feed_b55 at h1 ⊢
            unfold f_X6_feed_b56 at h1 ⊢
            refine ⟨fun c => ?_, fun c => ?_⟩
            · have h1 := h1.1 c
              unfold f_X6_feed_b80 at h1 ⊢
              intro x1 ex1
              have h1 := h1 x1 ex1
              exact ih _ _ _ _ _ _ _ _ d10 d11 kp h1
            · have h1 := h1.2 c
              refine loc9_X6_keyOf d10 kp h1 (fun r9 I5 L6 kp h1 => ?_)
              refine loc9_X7_merge d11 kp h1 (fun I12 L13 kp h1 => ?_)
              unfold f_X6_feed_b80 at h1 ⊢
              intro x1 ex1
              have h1 := h1 x1 ex1
              exact ih _ _ _ _ _ _ _ _ d10 d11 kp h1
          · have h1 := h1.2 c
            refine ⟨fun c => ?_, fun c => ?_⟩
            · have h1 := h1.1 c
              unfold f_X6_feed_b55 at h1 ⊢
              unfold f_X6_feed_b56 at h1 ⊢
              refine ⟨fun c => ?_, fun c => ?_⟩
              · have h1 := h1.1 c
                unfold f_X6_feed_b80 at h1 ⊢
                intro x1 ex1
                have h1 := h1 x1 ex1
                exact ih _ _ _ _ _ _ _ _ d10 d11 kp h1
              · have h1 := h1.2 c
                refine loc9_X6_keyOf d10 kp h1 (fun r9 I5 L6 kp h1 => ?_)
                refine loc9_X7_merge d11 kp h1 (fun I12 L13 kp h1 => ?_)
                unfold f_X6_feed_b80 at h1 ⊢
                intro x1 ex1
                have h1 := h1 x1 ex1
                exact ih _ _ _ _ _ _ _ _ d10 d11 kp h1
            · have h1 := h1.2 c
              unfold f_X6_feed_b56 at h1 ⊢
              refine ⟨fun c => ?_, fun c => ?_⟩
              · have h1 := h1.1 c
                unfold f_X6_feed_b80 at h1 ⊢
                intro x1 ex1
                have h1 := h1 x1 ex1
                exact ih _ _ _ _ _ _ _ _ d10 d11 kp h1
              · have h1 := h1.2 c
                refine loc9_X6_keyOf d10 kp h1 (fun r9 I5 L6 kp h1 => ?_)
                refine loc9_X7_merge d11 kp h1 (fun I12 L13 kp h1 => ?_)
                unfold f_X6_feed_b80 at h1 ⊢
                intro x1 ex1
                have h1 := h1 x1 ex1
                exact ih _ _ _ _ _ _ _ _ d10 d11 kp h1
set_option maxHeartbeats 4000000 in
theorem loc9_X6_feed {P : Nat → Prop} {ZB : jZ} {IB : jI} {LB : jL} {v0 : Nat} {v1 : Nat} {v2 : Int32} {v3 : Int64} {v5 : Int32} {Z : jZ} {I : jI} {L : jL} {Q1 Q2 : jI → jL → Prop} (d5 : DN9 P ZB v0) (d6 : DN7 P ZB v1) (kp : KP P ZB IB LB Z I L) (h1 : f_X6_feed v0 v1 v2 v3 v5 Z I L Q1) (hq : ∀ (x0 : jI) (x1 : jL), KP P ZB IB LB Z x0 x1 → Q1 x0 x1 → Q2 x0 x1) : f_X6_feed v0 v1 v2 v3 v5 Z I L Q2 := by
  unfold f_X6_feed at h1 ⊢
  refine loc9_X7_start d6 kp h1 (fun I25 L26 kp h1 => ?_)
  obtain ⟨n1, h1⟩ := h1
  exact ⟨n1, loc9_X6_feed_L8  hq n1 _ _ _ _ _ _ _ _ d5 d6 kp h1⟩
set_option maxHeartbeats 4000000 in
theorem loc9_X7_take_L4 {P : Nat → Prop} {ZB : jZ} {IB : jI} {LB : jL} {Z : jZ} {Q1 Q2 : Int64 → jI → jL → Prop} (hq : ∀ (x0 : Int64) (x1 : jI) (x2 : jL), KP P ZB IB LB Z x1 x2 → Q1 x0 x1 x2 → Q2 x0 x1 x2) : ∀ (n : Nat) (v0 : Nat) (v1 : Int32) (v2 : Int32) (I : jI) (L : jL), DN7 P ZB v0 → KP P ZB IB LB Z I L → f_X7_take_L4 Z Q1 n v0 v1 v2 I L → f_X7_take_L4 Z Q2 n v0 v1 v2 I L := by
  intro n
  induction n with
  | zero => intro v0 v1 v2 I L d32 kp h1; exact h1.elim
  | succ n ih =>
    intro v0 v1 v2 I L d32 kp h1
    unfold f_X7_take_L4 at h1 ⊢
    refine ⟨fun c => ?_, fun c => ?_⟩
    · have h1 := h1.1 c
      refine ⟨fun c => ?_, fun c => ?_⟩
      · have h1 := h1.1 c
        intro b7 eb7
        have h1 := h1 b7 eb7
        have d33 := dn_7 d32 kp (by decide) eb7
        refine ⟨h1.1, ?_⟩
        have h1 := h1.2
        intro x9 ex9
        have h1 := h1 x9 ex9
        intro b10 eb10
        have h1 := h1 b10 eb10
        have d34 := dn_7 d32 kp (by decide) eb10
        refine ⟨h1.1, ?_⟩
        have h1 := h1.2
        refine ⟨h1.1, ?_⟩
        have h1 := h1.2
        intro I13 eI13
        have h1 := h1 I13 eI13
        have kp := KP.wI kp d34 eI13
        intro b14 eb14
        have h1 := h1 b14 eb14
        have d35 := dn_7 d32 kp (by decide) eb14
        refine ⟨h1.1, ?_⟩
        have h1 := h1.2
        intro x16 ex16
        have h1 := h1 x16 ex16
        intro b17 eb17
        have h1 := h1 b17 eb17
        have d36 := dn_7 d32 kp (by decide) eb17
        intro b18 eb18
        have h1 := h1 b18 eb18
        have d37 := dn_7 d32 kp (by decide) eb18
        refine ⟨h1.1, ?_⟩
        have h1 := h1.2
        refine ⟨fun c => ?_, fun c => ?_⟩
        · have h1 := h1.1 c
          unfold f_X7_take_b119 at h1 ⊢
          unfold f_X7_take_b122 at h1 ⊢
          refine ⟨h1.1, ?_⟩
          have h1 := h1.2
          intro L2 eL2
          have h1 := h1 L2 eL2
          have kp := KP.wL kp d36 eL2
          intro I3 eI3
          have h1 := h1 I3 eI3
          have kp := KP.wI kp d32.2.1 eI3
          exact hq _ _ _ kp h1
        · have h1 := h1.2 c
          intro b21 eb21
          have h1 := h1 b21 eb21
          have d38 := dn_7 d32 kp (by decide) eb21
          refine ⟨fun c => ?_, fun c => ?_⟩
          · have h1 := h1.1 c
            unfold f_X7_take_b119 at h1 ⊢
            unfold f_X7_take_b122 at h1 ⊢
            refine ⟨h1.1, ?_⟩
            have h1 := h1.2
            intro L2 eL2
            have h1 := h1 L2 eL2
            have kp := KP.wL kp d36 eL2
            intro I3 eI3
            have h1 := h1 I3 eI3
            have kp := KP.wI kp d32.2.1 eI3
            exact hq _ _ _ kp h1
          · have h1 := h1.2 c
            intro b23 eb23
            have h1 := h1 b23 eb23
            have d39 := dn_7 d32 kp (by decide) eb23
            refine ⟨h1.1, ?_⟩
            have h1 := h1.2
            intro b25 eb25
            have h1 := h1 b25 eb25
            have d40 := dn_7 d32 kp (by decide) eb25
            refine ⟨h1.1, ?_⟩
            have h1 := h1.2
            unfold f_X7_take_b122 at h1 ⊢
            refine ⟨h1.1, ?_⟩
            have h1 := h1.2
            intro L2 eL2
            have h1 := h1 L2 eL2
            have kp := KP.wL kp d36 eL2
            intro I3 eI3
            have h1 := h1 I3 eI3
            have kp := KP.wI kp d32.2.1 eI3
            exact hq _ _ _ kp h1
      · have h1 := h1.2 c
        exact hq _ _ _ kp h1
    · have h1 := h1.2 c
      intro b27 eb27
      have h1 := h1 b27 eb27
      have d41 := dn_7 d32 kp (by decide) eb27
      refine ⟨h1.1, ?_⟩
      have h1 := h1.2
      intro b29 eb29
      have h1 := h1 b29 eb29
      have d42 := dn_7 d32 kp (by decide) eb29
      refine ⟨h1.1, ?_⟩
      have h1 := h1.2
      refine ⟨fun c => ?_, fun c => ?_⟩
      · have h1 := h1.1 c
        unfold f_X7_take_b33 at h1 ⊢
        intro x4 ex4
        have h1 := h1 x4 ex4
        exact ih _ _ _ _ _ d32 kp h1
      · have h1 := h1.2 c
        unfold f_X7_take_b33 at h1 ⊢
        intro x4 ex4
        have h1 := h1 x4 ex4
        exact ih _ _ _ _ _ d32 kp h1
set_option maxHeartbeats 4000000 in
theorem loc9_X7_take {P : Nat → Prop} {ZB : jZ} {IB : jI} {LB : jL} {v0 : Nat} {Z : jZ} {I : jI} {L : jL} {Q1 Q2 : Int64 → jI → jL → Prop} (d31 : DN7 P ZB v0) (kp : KP P ZB IB LB Z I L) (h1 : f_X7_take v0 Z I L Q1) (hq : ∀ (x0 : Int64) (x1 : jI) (x2 : jL), KP P ZB IB LB Z x1 x2 → Q1 x0 x1 x2 → Q2 x0 x1 x2) : f_X7_take v0 Z I L Q2 := by
  unfold f_X7_take at h1 ⊢
  obtain ⟨n1, h1⟩ := h1
  exact ⟨n1, loc9_X7_take_L4  hq n1 _ _ _ _ _ d31 kp h1⟩
set_option maxHeartbeats 4000000 in
theorem loc9_X11_costIn {P : Nat → Prop} {ZB : jZ} {IB : jI} {LB : jL} {v0 : Int64} {Z : jZ} {I : jI} {L : jL} {Q1 Q2 : Int32 → jI → jL → Prop} (kp : KP P ZB IB LB Z I L) (h1 : f_X11_costIn v0 Z I L Q1) (hq : ∀ (x0 : Int32) (x1 : jI) (x2 : jL), KP P ZB IB LB Z x1 x2 → Q1 x0 x1 x2 → Q2 x0 x1 x2) : f_X11_costIn v0 Z I L Q2 := by
  unfold f_X11_costIn at h1 ⊢
  exact hq _ _ _ kp h1
set_option maxHeartbeats 4000000 in
theorem loc9_X11_effortIn {P : Nat → Prop} {ZB : jZ} {IB : jI} {LB : jL} {v0 : Int64} {Z : jZ} {I : jI} {L : jL} {Q1 Q2 : Int32 → jI → jL → Prop} (kp : KP P ZB IB LB Z I L) (h1 : f_X11_effortIn v0 Z I L Q1) (hq : ∀ (x0 : Int32) (x1 : jI) (x2 : jL), KP P ZB IB LB Z x1 x2 → Q1 x0 x1 x2 → Q2 x0 x1 x2) : f_X11_effortIn v0 Z I L Q2 := by
  unfold f_X11_effortIn at h1 ⊢
  exact hq _ _ _ kp h1
set_option maxHeartbeats 4000000 in
theorem loc9_X7_push {P : Nat → Prop} {ZB : jZ} {IB : jI} {LB : jL} {B : Nat × Nat} {v0 : Nat} {v1 : Int32} {v2 : Int64} {Z : jZ} {I : jI} {L : jL} {Q1 Q2 : jZ → jI → jL → Prop} (d43 : DN7 P ZB v0) (kp : KP P ZB IB LB Z I L) (h1 : f_X7_push B v0 v1 v2 Z I L Q1) (hq : ∀ (x0 : jZ) (x1 : jI) (x2 : jL), KP P ZB IB LB x0 x1 x2 → Q1 x0 x1 x2 → Q2 x0 x1 x2) : f_X7_push B v0 v1 v2 Z I L Q2 := by
  unfold f_X7_push at h1 ⊢
  intro b13 eb13
  have h1 := h1 b13 eb13
  have d44 := dn_7 d43 kp (by decide) eb13
  refine ⟨fun c => ?_, fun c => ?_⟩
  · have h1 := h1.1 c
    unfold f_X7_push_b38 at h1 ⊢
    intro b1 eb1
    have h1 := h1 b1 eb1
    have d45 := dn_7 d43 kp (by decide) eb1
    refine ⟨fun c => ?_, fun c => ?_⟩
    · have h1 := h1.1 c
      exact hq _ _ _ kp h1
    · have h1 := h1.2 c
      refine ⟨fun c => ?_, fun c => ?_⟩
      · have h1 := h1.1 c
        exact hq _ _ _ kp h1
      · have h1 := h1.2 c
        refine ⟨fun c => ?_, fun c => ?_⟩
        · have h1 := h1.1 c
          exact hq _ _ _ kp h1
        · have h1 := h1.2 c
          intro b5 eb5
          have h1 := h1 b5 eb5
          have d46 := dn_7 d43 kp (by decide) eb5
          refine ⟨h1.1, ?_⟩
          have h1 := h1.2
          intro L7 eL7
          have h1 := h1 L7 eL7
          have kp := KP.wL kp d46 eL7
          intro I8 eI8
          have h1 := h1 I8 eI8
          have kp := KP.wI kp d43.2.1 eI8
          intro b9 eb9
          have h1 := h1 b9 eb9
          have d47 := dn_7 d43 kp (by decide) eb9
          refine ⟨h1.1, ?_⟩
          have h1 := h1.2
          refine ⟨h1.1, ?_⟩
          have h1 := h1.2
          intro I12 eI12
          have h1 := h1 I12 eI12
          have kp := KP.wI kp d47 eI12
          exact hq _ _ _ kp h1
  · have h1 := h1.2 c
    refine ⟨fun c => ?_, fun c => ?_⟩
    · have h1 := h1.1 c
      unfold f_X7_push_b38 at h1 ⊢
      intro b1 eb1
      have h1 := h1 b1 eb1
      have d48 := dn_7 d43 kp (by decide) eb1
      refine ⟨fun c => ?_, fun c => ?_⟩
      · have h1 := h1.1 c
        exact hq _ _ _ kp h1
      · have h1 := h1.2 c
        refine ⟨fun c => ?_, fun c => ?_⟩
        · have h1 := h1.1 c
          exact hq _ _ _ kp h1
        · have h1 := h1.2 c
          refine ⟨fun c => ?_, fun c => ?_⟩
          · have h1 := h1.1 c
            exact hq _ _ _ kp h1
          · have h1 := h1.2 c
            intro b5 eb5
            have h1 := h1 b5 eb5
            have d49 := dn_7 d43 kp (by decide) eb5
            refine ⟨h1.1, ?_⟩
            have h1 := h1.2
            intro L7 eL7
            have h1 := h1 L7 eL7
            have kp := KP.wL kp d49 eL7
            intro I8 eI8
            have h1 := h1 I8 eI8
            have kp := KP.wI kp d43.2.1 eI8
            intro b9 eb9
            have h1 := h1 b9 eb9
            have d50 := dn_7 d43 kp (by decide) eb9
            refine ⟨h1.1, ?_⟩
            have h1 := h1.2
            refine ⟨h1.1, ?_⟩
            have h1 := h1.2
            intro I12 eI12
            have h1 := h1 I12 eI12
            have kp := KP.wI kp d50 eI12
            exact hq _ _ _ kp h1
    · have h1 := h1.2 c
      intro b16 eb16
      have h1 := h1 b16 eb16
      have d51 := dn_7 d43 kp (by decide) eb16
      refine loc_J7_copyOf_c38d5 kp h1 (fun r23 Z18 I19 L20 kp hr h1 => ?_)
      refine ⟨fun c => ?_, fun b25 c => ?_⟩
      · have h1 := h1.1 c
        exact h1.elim
      · have h1 := h1.2 b25 c
        have d52 := hr b25 c
        intro Z27 eZ27
        have h1 := h1 Z27 eZ27
        have kp := KP.wR kp d43 d52 eZ27
        unfold f_X7_push_b38 at h1 ⊢
        intro b1 eb1
        have h1 := h1 b1 eb1
        have d53 := dn_7 d43 kp (by decide) eb1
        refine ⟨fun c => ?_, fun c => ?_⟩
        · have h1 := h1.1 c
          exact hq _ _ _ kp h1
        · have h1 := h1.2 c
          refine ⟨fun c => ?_, fun c => ?_⟩
          · have h1 := h1.1 c
            exact hq _ _ _ kp h1
          · have h1 := h1.2 c
            refine ⟨fun c => ?_, fun c => ?_⟩
            · have h1 := h1.1 c
              exact hq _ _ _ kp h1
            · have h1 := h1.2 c
              intro b5 eb5
              have h1 := h1 b5 eb5
              have d54 := dn_7 d43 kp (by decide) eb5
              refine ⟨h1.1, ?_⟩
              have h1 := h1.2
              intro L7 eL7
              have h1 := h1 L7 eL7
              have kp := KP.wL kp d54 eL7
              intro I8 eI8
              have h1 := h1 I8 eI8
              have kp := KP.wI kp d43.2.1 eI8
              intro b9 eb9
              have h1 := h1 b9 eb9
              have d55 := dn_7 d43 kp (by decide) eb9
              refine ⟨h1.1, ?_⟩
              have h1 := h1.2
              refine ⟨h1.1, ?_⟩
              have h1 := h1.2
              intro I12 eI12
              have h1 := h1 I12 eI12
              have kp := KP.wI kp d55 eI12
              exact hq _ _ _ kp h1
set_option maxHeartbeats 4000000 in
theorem loc9_X7_keepCheapest_L9 {P : Nat → Prop} {ZB : jZ} {IB : jI} {LB : jL} {B : Nat × Nat} {Q1 Q2 : jZ → jI → jL → Prop} (hq : ∀ (x0 : jZ) (x1 : jI) (x2 : jL), KP P ZB IB LB x0 x1 x2 → Q1 x0 x1 x2 → Q2 x0 x1 x2) : ∀ (n : Nat) (v0 : Nat) (v1 : Int32) (v3 : Int32) (v4 : Int32) (v5 : Int32) (Z : jZ) (I : jI) (L : jL), DN7 P ZB v0 → KP P ZB IB LB Z I L → f_X7_keepCheapest_L9 B Q1 n v0 v1 v3 v4 v5 Z I L → f_X7_keepCheapest_L9 B Q2 n v0 v1 v3 v4 v5 Z I L := by
  intro n
  induction n with
  | zero => intro v0 v1 v3 v4 v5 Z I L d30 kp h1; exact h1.elim
  | succ n ih =>
    intro v0 v1 v3 v4 v5 Z I L d30 kp h1
    unfold f_X7_keepCheapest_L9 at h1 ⊢
    refine ⟨fun c => ?_, fun c => ?_⟩
    · have h1 := h1.1 c
      exact hq _ _ _ kp h1
    · have h1 := h1.2 c
      refine ⟨fun c => ?_, fun c => ?_⟩
      · have h1 := h1.1 c
        exact hq _ _ _ kp h1
      · have h1 := h1.2 c
        refine loc9_X7_take d30 kp h1 (fun r10 I6 L7 kp h1 => ?_)
        refine loc9_X11_costIn  kp h1 (fun r17 I13 L14 kp h1 => ?_)
        refine ⟨fun c => ?_, fun c => ?_⟩
        · have h1 := h1.1 c
          refine loc9_X11_effortIn  kp h1 (fun r25 I21 L22 kp h1 => ?_)
          refine ⟨fun c => ?_, fun c => ?_⟩
          · have h1 := h1.1 c
            unfold f_X7_keepCheapest_b61 at h1 ⊢
            intro x1 ex1
            have h1 := h1 x1 ex1
            exact ih _ _ _ _ _ _ _ _ d30 kp h1
          · have h1 := h1.2 c
            refine loc9_X7_push d30 kp h1 (fun Z28 I29 L30 kp h1 => ?_)
            refine loc9_X11_effortIn  kp h1 (fun r40 I36 L37 kp h1 => ?_)
            intro x41 ex41
            have h1 := h1 x41 ex41
            unfold f_X7_keepCheapest_b61 at h1 ⊢
            intro x1 ex1
            have h1 := h1 x1 ex1
            exact ih _ _ _ _ _ _ _ _ d30 kp h1
        · have h1 := h1.2 c
          exact hq _ _ _ kp h1
set_option maxHeartbeats 4000000 in
theorem loc9_X7_keepCheapest {P : Nat → Prop} {ZB : jZ} {IB : jI} {LB : jL} {B : Nat × Nat} {v0 : Nat} {v1 : Int32} {v2 : Int32} {v3 : Int32} {Z : jZ} {I : jI} {L : jL} {Q1 Q2 : jZ → jI → jL → Prop} (d29 : DN7 P ZB v0) (kp : KP P ZB IB LB Z I L) (h1 : f_X7_keepCheapest B v0 v1 v2 v3 Z I L Q1) (hq : ∀ (x0 : jZ) (x1 : jI) (x2 : jL), KP P ZB IB LB x0 x1 x2 → Q1 x0 x1 x2 → Q2 x0 x1 x2) : f_X7_keepCheapest B v0 v1 v2 v3 Z I L Q2 := by
  unfold f_X7_keepCheapest at h1 ⊢
  intro x42 ex42
  have h1 := h1 x42 ex42
  obtain ⟨n1, h1⟩ := h1
  exact ⟨n1, loc9_X7_keepCheapest_L9  hq n1 _ _ _ _ _ _ _ _ d29 kp h1⟩
set_option maxHeartbeats 4000000 in
theorem loc9_X6_raiseOne {P : Nat → Prop} {ZB : jZ} {IB : jI} {LB : jL} {B : Nat × Nat} {v0 : Nat} {v1 : Int32} {Z : jZ} {I : jI} {L : jL} {Q1 Q2 : jZ → jI → jL → Prop} (d3 : DN9 P ZB v0) (kp : KP P ZB IB LB Z I L) (h1 : f_X6_raiseOne B v0 v1 Z I L Q1) (hq : ∀ (x0 : jZ) (x1 : jI) (x2 : jL), KP P ZB IB LB x0 x1 x2 → Q1 x0 x1 x2 → Q2 x0 x1 x2) : f_X6_raiseOne B v0 v1 Z I L Q2 := by
  unfold f_X6_raiseOne at h1 ⊢
  refine ⟨fun c => ?_, fun c => ?_⟩
  · have h1 := h1.1 c
    exact hq _ _ _ kp h1
  · have h1 := h1.2 c
    refine ⟨fun c => ?_, fun c => ?_⟩
    · have h1 := h1.1 c
      exact hq _ _ _ kp h1
    · have h1 := h1.2 c
      intro b3 eb3
      have h1 := h1 b3 eb3
      have d4 := dn_9_7 d3 kp eb3
      refine loc9_X6_feed d3 d4 kp h1 (fun I6 L7 kp h1 => ?_)
      intro b10 eb10
      have h1 := h1 b10 eb10
      have d27 := dn_9_7 d3 kp eb10
      intro b11 eb11
      have h1 := h1 b11 eb11
      have d28 := dn_9 d3 kp (by decide) eb11
      refine ⟨h1.1, ?_⟩
      have h1 := h1.2
      refine loc9_X7_keepCheapest d27 kp h1 (fun Z14 I15 L16 kp h1 => ?_)
      exact hq _ _ _ kp h1
set_option maxHeartbeats 4000000 in
theorem loc9_X6_raiseTo_L2 {P : Nat → Prop} {ZB : jZ} {IB : jI} {LB : jL} {B : Nat × Nat} {Q1 Q2 : jZ → jI → jL → Prop} (hq : ∀ (x0 : jZ) (x1 : jI) (x2 : jL), KP P ZB IB LB x0 x1 x2 → Q1 x0 x1 x2 → Q2 x0 x1 x2) : ∀ (n : Nat) (v0 : Nat) (v1 : Int32) (v2 : Int32) (Z : jZ) (I : jI) (L : jL), DN9 P ZB v0 → KP P ZB IB LB Z I L → f_X6_raiseTo_L2 B Q1 n v0 v1 v2 Z I L → f_X6_raiseTo_L2 B Q2 n v0 v1 v2 Z I L := by
  intro n
  induction n with
  | zero => intro v0 v1 v2 Z I L d2 kp h1; exact h1.elim
  | succ n ih =>
    intro v0 v1 v2 Z I L d2 kp h1
    unfold f_X6_raiseTo_L2 at h1 ⊢
    refine ⟨fun c => ?_, fun c => ?_⟩
    · have h1 := h1.1 c
      exact hq _ _ _ kp h1
    · have h1 := h1.2 c
      refine ⟨fun c => ?_, fun c => ?_⟩
      · have h1 := h1.1 c
        exact hq _ _ _ kp h1
      · have h1 := h1.2 c
        refine loc9_X6_raiseOne d2 kp h1 (fun Z4 I5 L6 kp h1 => ?_)
        intro x10 ex10
        have h1 := h1 x10 ex10
        exact ih _ _ _ _ _ _ d2 kp h1
set_option maxHeartbeats 4000000 in
theorem loc9_X6_raiseTo {P : Nat → Prop} {ZB : jZ} {IB : jI} {LB : jL} {B : Nat × Nat} {v0 : Nat} {v1 : Int32} {Z : jZ} {I : jI} {L : jL} {Q1 Q2 : jZ → jI → jL → Prop} (d1 : DN9 P ZB v0) (kp : KP P ZB IB LB Z I L) (h1 : f_X6_raiseTo B v0 v1 Z I L Q1) (hq : ∀ (x0 : jZ) (x1 : jI) (x2 : jL), KP P ZB IB LB x0 x1 x2 → Q1 x0 x1 x2 → Q2 x0 x1 x2) : f_X6_raiseTo B v0 v1 Z I L Q2 := by
  unfold f_X6_raiseTo at h1 ⊢
  obtain ⟨n1, h1⟩ := h1
  exact ⟨n1, loc9_X6_raiseTo_L2  hq n1 _ _ _ _ _ _ d1 kp h1⟩
/-! ===== cells that are not reached: the methods of a pilgrim's routes ===== -/
set_option maxHeartbeats 4000000 in
theorem loc10_X7_start {P : Nat → Prop} {ZB : jZ} {IB : jI} {LB : jL} {v0 : Nat} {v1 : Int32} {Z : jZ} {I : jI} {L : jL} {Q1 Q2 : jI → jL → Prop} (d3 : DN7 P ZB v0) (kp : KP P ZB IB LB Z I L) (h1 : f_X7_start v0 v1 Z I L Q1) (hq : ∀ (x0 : jI) (x1 : jL), KP P ZB IB LB Z x0 x1 → Q1 x0 x1 → Q2 x0 x1) : f_X7_start v0 v1 Z I L Q2 := by
  unfold f_X7_start at h1 ⊢
  refine ⟨fun c => ?_, fun c => ?_⟩
  · have h1 := h1.1 c
    unfold f_X7_start_b27 at h1 ⊢
    intro I1 eI1
    have h1 := h1 I1 eI1
    have kp := KP.wI kp d3.2.1 eI1
    intro I2 eI2
    have h1 := h1 I2 eI2
    have kp := KP.wI kp d3.2.1 eI2
    exact hq _ _ kp h1
  · have h1 := h1.2 c
    refine ⟨fun c => ?_, fun c => ?_⟩
    · have h1 := h1.1 c
      unfold f_X7_start_b27 at h1 ⊢
      intro I1 eI1
      have h1 := h1 I1 eI1
      have kp := KP.wI kp d3.2.1 eI1
      intro I2 eI2
      have h1 := h1 I2 eI2
      have kp := KP.wI kp d3.2.1 eI2
      exact hq _ _ kp h1
    · have h1 := h1.2 c
      intro b5 eb5
      have h1 := h1 b5 eb5
      have d4 := dn_7 d3 kp (by decide) eb5
      refine ⟨h1.1, ?_⟩
      have h1 := h1.2
      intro I7 eI7
      have h1 := h1 I7 eI7
      have kp := KP.wI kp d4 eI7
      intro b8 eb8
      have h1 := h1 b8 eb8
      have d5 := dn_7 d3 kp (by decide) eb8
      refine ⟨h1.1, ?_⟩
      have h1 := h1.2
      intro I10 eI10
      have h1 := h1 I10 eI10
      have kp := KP.wI kp d5 eI10
      unfold f_X7_start_b27 at h1 ⊢
      intro I1 eI1
      have h1 := h1 I1 eI1
      have kp := KP.wI kp d3.2.1 eI1
      intro I2 eI2
      have h1 := h1 I2 eI2
      have kp := KP.wI kp d3.2.1 eI2
      exact hq _ _ kp h1
set_option maxHeartbeats 4000000 in
theorem loc10_X7_take_L4 {P : Nat → Prop} {ZB : jZ} {IB : jI} {LB : jL} {Z : jZ} {Q1 Q2 : Int64 → jI → jL → Prop} (hq : ∀ (x0 : Int64) (x1 : jI) (x2 : jL), KP P ZB IB LB Z x1 x2 → Q1 x0 x1 x2 → Q2 x0 x1 x2) : ∀ (n : Nat) (v0 : Nat) (v1 : Int32) (v2 : Int32) (I : jI) (L : jL), DN7 P ZB v0 → KP P ZB IB LB Z I L → f_X7_take_L4 Z Q1 n v0 v1 v2 I L → f_X7_take_L4 Z Q2 n v0 v1 v2 I L := by
  intro n
  induction n with
  | zero => intro v0 v1 v2 I L d12 kp h1; exact h1.elim
  | succ n ih =>
    intro v0 v1 v2 I L d12 kp h1
    unfold f_X7_take_L4 at h1 ⊢
    refine ⟨fun c => ?_, fun c => ?_⟩
    · have h1 := h1.1 c
      refine ⟨fun c => ?_, fun c => ?_⟩
      · have h1 := h1.1 c
        intro b7 eb7
        have h1 := h1 b7 eb7
        have d13 := dn_7 d12 kp (by decide) eb7
        refine ⟨h1.1, ?_⟩
        have h1 := h1.2
        intro x9 ex9
        have h1 := h1 x9 ex9
        intro b10 eb10
        have h1 := h1 b10 eb10
        have d14 := dn_7 d12 kp (by decide) eb10
        refine ⟨h1.1, ?_⟩
        have h1 := h1.2
        refine ⟨h1.1, ?_⟩
        have h1 := h1.2
        intro I13 eI13
        have h1 := h1 I13 eI13
        have kp := KP.wI kp d14 eI13
        intro b14 eb14
        have h1 := h1 b14 eb14
        have d15 := dn_7 d12 kp (by decide) eb14
        refine ⟨h1.1, ?_⟩
        have h1 := h1.2
        intro x16 ex16
        have h1 := h1 x16 ex16
        intro b17 eb17
        have h1 := h1 b17 eb17
        have d16 := dn_7 d12 kp (by decide) eb17
        intro b18 eb18
        have h1 := h1 b18 eb18
        have d17 := dn_7 d12 kp (by decide) eb18
        refine ⟨h1.1, ?_⟩
        have h1 := h1.2
        refine ⟨fun c => ?_, fun c => ?_⟩
        · have h1 := h1.1 c
          unfold f_X7_take_b119 at h1 ⊢
          unfold f_X7_take_b122 at h1 ⊢
          refine ⟨h1.1, ?_⟩
          have h1 := h1.2
          intro L2 eL2
          have h1 := h1 L2 eL2
          have kp := KP.wL kp d16 eL2
          intro I3 eI3
          have h1 := h1 I3 eI3
          have kp := KP.wI kp d12.2.1 eI3
          exact hq _ _ _ kp h1
        · have h1 := h1.2 c
          intro b21 eb21
          have h1 := h1 b21 eb21
          have d18 := dn_7 d12 kp (by decide) eb21
          refine ⟨fun c => ?_, fun c => ?_⟩
          · have h1 := h1.1 c
            unfold f_X7_take_b119 at h1 ⊢
            unfold f_X7_take_b122 at h1 ⊢
            refine ⟨h1.1, ?_⟩
            have h1 := h1.2
            intro L2 eL2
            have h1 := h1 L2 eL2
            have kp := KP.wL kp d16 eL2
            intro I3 eI3
            have h1 := h1 I3 eI3
            have kp := KP.wI kp d12.2.1 eI3
            exact hq _ _ _ kp h1
          · have h1 := h1.2 c
            intro b23 eb23
            have h1 := h1 b23 eb23
            have d19 := dn_7 d12 kp (by decide) eb23
            refine ⟨h1.1, ?_⟩
            have h1 := h1.2
            intro b25 eb25
            have h1 := h1 b25 eb25
            have d20 := dn_7 d12 kp (by decide) eb25
            refine ⟨h1.1, ?_⟩
            have h1 := h1.2
            unfold f_X7_take_b122 at h1 ⊢
            refine ⟨h1.1, ?_⟩
            have h1 := h1.2
            intro L2 eL2
            have h1 := h1 L2 eL2
            have kp := KP.wL kp d16 eL2
            intro I3 eI3
            have h1 := h1 I3 eI3
            have kp := KP.wI kp d12.2.1 eI3
            exact hq _ _ _ kp h1
      · have h1 := h1.2 c
        exact hq _ _ _ kp h1
    · have h1 := h1.2 c
      intro b27 eb27
      have h1 := h1 b27 eb27
      have d21 := dn_7 d12 kp (by decide) eb27
      refine ⟨h1.1, ?_⟩
      have h1 := h1.2
      intro b29 eb29
      have h1 := h1 b29 eb29
      have d22 := dn_7 d12 kp (by decide) eb29
      refine ⟨h1.1, ?_⟩
      have h1 := h1.2
      refine ⟨fun c => ?_, fun c => ?_⟩
      · have h1 := h1.1 c
        unfold f_X7_take_b33 at h1 ⊢
        intro x4 ex4
        have h1 := h1 x4 ex4
        exact ih _ _ _ _ _ d12 kp h1
      · have h1 := h1.2 c
        unfold f_X7_take_b33 at h1 ⊢
        intro x4 ex4
        have h1 := h1 x4 ex4
        exact ih _ _ _ _ _ d12 kp h1
set_option maxHeartbeats 4000000 in
theorem loc10_X7_take {P : Nat → Prop} {ZB : jZ} {IB : jI} {LB : jL} {v0 : Nat} {Z : jZ} {I : jI} {L : jL} {Q1 Q2 : Int64 → jI → jL → Prop} (d11 : DN7 P ZB v0) (kp : KP P ZB IB LB Z I L) (h1 : f_X7_take v0 Z I L Q1) (hq : ∀ (x0 : Int64) (x1 : jI) (x2 : jL), KP P ZB IB LB Z x1 x2 → Q1 x0 x1 x2 → Q2 x0 x1 x2) : f_X7_take v0 Z I L Q2 := by
  unfold f_X7_take at h1 ⊢
  obtain ⟨n1, h1⟩ := h1
  exact ⟨n1, loc10_X7_take_L4  hq n1 _ _ _ _ _ d11 kp h1⟩
set_option maxHeartbeats 4000000 in
theorem loc10_X11_costIn {P : Nat → Prop} {ZB : jZ} {IB : jI} {LB : jL} {v0 : Int64} {Z : jZ} {I : jI} {L : jL} {Q1 Q2 : Int32 → jI → jL → Prop} (kp : KP P ZB IB LB Z I L) (h1 : f_X11_costIn v0 Z I L Q1) (hq : ∀ (x0 : Int32) (x1 : jI) (x2 : jL), KP P ZB IB LB Z x1 x2 → Q1 x0 x1 x2 → Q2 x0 x1 x2) : f_X11_costIn v0 Z I L Q2 := by
  unfold f_X11_costIn at h1 ⊢
  exact hq _ _ _ kp h1
set_option maxHeartbeats 4000000 in
theorem loc10_X11_effortIn {P : Nat → Prop} {ZB : jZ} {IB : jI} {LB : jL} {v0 : Int64} {Z : jZ} {I : jI} {L : jL} {Q1 Q2 : Int32 → jI → jL → Prop} (kp : KP P ZB IB LB Z I L) (h1 : f_X11_effortIn v0 Z I L Q1) (hq : ∀ (x0 : Int32) (x1 : jI) (x2 : jL), KP P ZB IB LB Z x1 x2 → Q1 x0 x1 x2 → Q2 x0 x1 x2) : f_X11_effortIn v0 Z I L Q2 := by
  unfold f_X11_effortIn at h1 ⊢
  exact hq _ _ _ kp h1
set_option maxHeartbeats 4000000 in
theorem loc10_X7_push {P : Nat → Prop} {ZB : jZ} {IB : jI} {LB : jL} {B : Nat × Nat} {v0 : Nat} {v1 : Int32} {v2 : Int64} {Z : jZ} {I : jI} {L : jL} {Q1 Q2 : jZ → jI → jL → Prop} (d23 : DN7 P ZB v0) (kp : KP P ZB IB LB Z I L) (h1 : f_X7_push B v0 v1 v2 Z I L Q1) (hq : ∀ (x0 : jZ) (x1 : jI) (x2 : jL), KP P ZB IB LB x0 x1 x2 → Q1 x0 x1 x2 → Q2 x0 x1 x2) : f_X7_push B v0 v1 v2 Z I L Q2 := by
  unfold f_X7_push at h1 ⊢
  intro b13 eb13
  have h1 := h1 b13 eb13
  have d24 := dn_7 d23 kp (by decide) eb13
  refine ⟨fun c => ?_, fun c => ?_⟩
  · have h1 := h1.1 c
    unfold f_X7_push_b38 at h1 ⊢
    intro b1 eb1
    have h1 := h1 b1 eb1
    have d25 := dn_7 d23 kp (by decide) eb1
    refine ⟨fun c => ?_, fun c => ?_⟩
    · have h1 := h1.1 c
      exact hq _ _ _ kp h1
    · have h1 := h1.2 c
      refine ⟨fun c => ?_, fun c => ?_⟩
      · have h1 := h1.1 c
        exact hq _ _ _ kp h1
      · have h1 := h1.2 c
        refine ⟨fun c => ?_, fun c => ?_⟩
        · have h1 := h1.1 c
          exact hq _ _ _ kp h1
        · have h1 := h1.2 c
          intro b5 eb5
          have h1 := h1 b5 eb5
          have d26 := dn_7 d23 kp (by decide) eb5
          refine ⟨h1.1, ?_⟩
          have h1 := h1.2
          intro L7 eL7
          have h1 := h1 L7 eL7
          have kp := KP.wL kp d26 eL7
          intro I8 eI8
          have h1 := h1 I8 eI8
          have kp := KP.wI kp d23.2.1 eI8
          intro b9 eb9
          have h1 := h1 b9 eb9
          have d27 := dn_7 d23 kp (by decide) eb9
          refine ⟨h1.1, ?_⟩
          have h1 := h1.2
          refine ⟨h1.1, ?_⟩
          have h1 := h1.2
          intro I12 eI12
          have h1 := h1 I12 eI12
          have kp := KP.wI kp d27 eI12
          exact hq _ _ _ kp h1
  · have h1 := h1.2 c
    refine ⟨fun c => ?_, fun c => ?_⟩
    · have h1 := h1.1 c
      unfold f_X7_push_b38 at h1 ⊢
      intro b1 eb1
      have h1 := h1 b1 eb1
      have d28 := dn_7 d23 kp (by decide) eb1
      refine ⟨fun c => ?_, fun c => ?_⟩
      · have h1 := h1.1 c
        exact hq _ _ _ kp h1
      · have h1 := h1.2 c
        refine ⟨fun c => ?_, fun c => ?_⟩
        · have h1 := h1.1 c
          exact hq _ _ _ kp h1
        · have h1 := h1.2 c
          refine ⟨fun c => ?_, fun c => ?_⟩
          · have h1 := h1.1 c
            exact hq _ _ _ kp h1
          · have h1 := h1.2 c
            intro b5 eb5
            have h1 := h1 b5 eb5
            have d29 := dn_7 d23 kp (by decide) eb5
            refine ⟨h1.1, ?_⟩
            have h1 := h1.2
            intro L7 eL7
            have h1 := h1 L7 eL7
            have kp := KP.wL kp d29 eL7
            intro I8 eI8
            have h1 := h1 I8 eI8
            have kp := KP.wI kp d23.2.1 eI8
            intro b9 eb9
            have h1 := h1 b9 eb9
            have d30 := dn_7 d23 kp (by decide) eb9
            refine ⟨h1.1, ?_⟩
            have h1 := h1.2
            refine ⟨h1.1, ?_⟩
            have h1 := h1.2
            intro I12 eI12
            have h1 := h1 I12 eI12
            have kp := KP.wI kp d30 eI12
            exact hq _ _ _ kp h1
    · have h1 := h1.2 c
      intro b16 eb16
      have h1 := h1 b16 eb16
      have d31 := dn_7 d23 kp (by decide) eb16
      refine loc_J7_copyOf_c38d5 kp h1 (fun r23 Z18 I19 L20 kp hr h1 => ?_)
      refine ⟨fun c => ?_, fun b25 c => ?_⟩
      · have h1 := h1.1 c
        exact h1.elim
      · have h1 := h1.2 b25 c
        have d32 := hr b25 c
        intro Z27 eZ27
        have h1 := h1 Z27 eZ27
        have kp := KP.wR kp d23 d32 eZ27
        unfold f_X7_push_b38 at h1 ⊢
        intro b1 eb1
        have h1 := h1 b1 eb1
        have d33 := dn_7 d23 kp (by decide) eb1
        refine ⟨fun c => ?_, fun c => ?_⟩
        · have h1 := h1.1 c
          exact hq _ _ _ kp h1
        · have h1 := h1.2 c
          refine ⟨fun c => ?_, fun c => ?_⟩
          · have h1 := h1.1 c
            exact hq _ _ _ kp h1
          · have h1 := h1.2 c
            refine ⟨fun c => ?_, fun c => ?_⟩
            · have h1 := h1.1 c
              exact hq _ _ _ kp h1
            · have h1 := h1.2 c
              intro b5 eb5
              have h1 := h1 b5 eb5
              have d34 := dn_7 d23 kp (by decide) eb5
              refine ⟨h1.1, ?_⟩
              have h1 := h1.2
              intro L7 eL7
              have h1 := h1 L7 eL7
              have kp := KP.wL kp d34 eL7
              intro I8 eI8
              have h1 := h1 I8 eI8
              have kp := KP.wI kp d23.2.1 eI8
              intro b9 eb9
              have h1 := h1 b9 eb9
              have d35 := dn_7 d23 kp (by decide) eb9
              refine ⟨h1.1, ?_⟩
              have h1 := h1.2
              refine ⟨h1.1, ?_⟩
              have h1 := h1.2
              intro I12 eI12
              have h1 := h1 I12 eI12
              have kp := KP.wI kp d35 eI12
              exact hq _ _ _ kp h1
set_option maxHeartbeats 4000000 in
theorem loc10_X7_keepCheapest_L9 {P : Nat → Prop} {ZB : jZ} {IB : jI} {LB : jL} {B : Nat × Nat} {Q1 Q2 : jZ → jI → jL → Prop} (hq : ∀ (x0 : jZ) (x1 : jI) (x2 : jL), KP P ZB IB LB x0 x1 x2 → Q1 x0 x1 x2 → Q2 x0 x1 x2) : ∀ (n : Nat) (v0 : Nat) (v1 : Int32) (v3 : Int32) (v4 : Int32) (v5 : Int32) (Z : jZ) (I : jI) (L : jL), DN7 P ZB v0 → KP P ZB IB LB Z I L → f_X7_keepCheapest_L9 B Q1 n v0 v1 v3 v4 v5 Z I L → f_X7_keepCheapest_L9 B Q2 n v0 v1 v3 v4 v5 Z I L := by
  intro n
  induction n with
  | zero => intro v0 v1 v3 v4 v5 Z I L d10 kp h1; exact h1.elim
  | succ n ih =>
    intro v0 v1 v3 v4 v5 Z I L d10 kp h1
    unfold f_X7_keepCheapest_L9 at h1 ⊢
    refine ⟨fun c => ?_, fun c => ?_⟩
    · have h1 := h1.1 c
      exact hq _ _ _ kp h1
    · have h1 := h1.2 c
      refine ⟨fun c => ?_, fun c => ?_⟩
      · have h1 := h1.1 c
        exact hq _ _ _ kp h1
      · have h1 := h1.2 c
        refine loc10_X7_take d10 kp h1 (fun r10 I6 L7 kp h1 => ?_)
        refine loc10_X11_costIn  kp h1 (fun r17 I13 L14 kp h1 => ?_)
        refine ⟨fun c => ?_, fun c => ?_⟩
        · have h1 := h1.1 c
          refine loc10_X11_effortIn  kp h1 (fun r25 I21 L22 kp h1 => ?_)
          refine ⟨fun c => ?_, fun c => ?_⟩
          · have h1 := h1.1 c
            unfold f_X7_keepCheapest_b61 at h1 ⊢
            intro x1 ex1
            have h1 := h1 x1 ex1
            exact ih _ _ _ _ _ _ _ _ d10 kp h1
          · have h1 := h1.2 c
            refine loc10_X7_push d10 kp h1 (fun Z28 I29 L30 kp h1 => ?_)
            refine loc10_X11_effortIn  kp h1 (fun r40 I36 L37 kp h1 => ?_)
            intro x41 ex41
            have h1 := h1 x41 ex41
            unfold f_X7_keepCheapest_b61 at h1 ⊢
            intro x1 ex1
            have h1 := h1 x1 ex1
            exact ih _ _ _ _ _ _ _ _ d10 kp h1
        · have h1 := h1.2 c
          exact hq _ _ _ kp h1
set_option maxHeartbeats 4000000 in
theorem loc10_X7_keepCheapest {P : Nat → Prop} {ZB : jZ} {IB : jI} {LB : jL} {B : Nat × Nat} {v0 : Nat} {v1 : Int32} {v2 : Int32} {v3 : Int32} {Z : jZ} {I : jI} {L : jL} {Q1 Q2 : jZ → jI → jL → Prop} (d9 : DN7 P ZB v0) (kp : KP P ZB IB LB Z I L) (h1 : f_X7_keepCheapest B v0 v1 v2 v3 Z I L Q1) (hq : ∀ (x0 : jZ) (x1 : jI) (x2 : jL), KP P ZB IB LB x0 x1 x2 → Q1 x0 x1 x2 → Q2 x0 x1 x2) : f_X7_keepCheapest B v0 v1 v2 v3 Z I L Q2 := by
  unfold f_X7_keepCheapest at h1 ⊢
  intro x42 ex42
  have h1 := h1 x42 ex42
  obtain ⟨n1, h1⟩ := h1
  exact ⟨n1, loc10_X7_keepCheapest_L9  hq n1 _ _ _ _ _ _ _ _ d9 kp h1⟩
set_option maxHeartbeats 4000000 in
theorem loc10_X6_moveTo {P : Nat → Prop} {ZB : jZ} {IB : jI} {LB : jL} {v0 : Int32} {v1 : Int32} {Z : jZ} {I : jI} {L : jL} {Q1 Q2 : Int32 → jI → jL → Prop} (kp : KP P ZB IB LB Z I L) (h1 : f_X6_moveTo v0 v1 Z I L Q1) (hq : ∀ (x0 : Int32) (x1 : jI) (x2 : jL), KP P ZB IB LB Z x1 x2 → Q1 x0 x1 x2 → Q2 x0 x1 x2) : f_X6_moveTo v0 v1 Z I L Q2 := by
  unfold f_X6_moveTo at h1 ⊢
  exact hq _ _ _ kp h1
set_option maxHeartbeats 4000000 in
theorem loc10_X11_bitOf {P : Nat → Prop} {ZB : jZ} {IB : jI} {LB : jL} {v0 : Int32} {Z : jZ} {I : jI} {L : jL} {Q1 Q2 : Int64 → jI → jL → Prop} (kp : KP P ZB IB LB Z I L) (h1 : f_X11_bitOf v0 Z I L Q1) (hq : ∀ (x0 : Int64) (x1 : jI) (x2 : jL), KP P ZB IB LB Z x1 x2 → Q1 x0 x1 x2 → Q2 x0 x1 x2) : f_X11_bitOf v0 Z I L Q2 := by
  unfold f_X11_bitOf at h1 ⊢
  exact hq _ _ _ kp h1
set_option maxHeartbeats 4000000 in
theorem loc10_X6_keyOf {P : Nat → Prop} {ZB : jZ} {IB : jI} {LB : jL} {v0 : Nat} {v1 : Int32} {v2 : Int32} {Z : jZ} {I : jI} {L : jL} {Q1 Q2 : Int64 → jI → jL → Prop} (d43 : DN10 P ZB v0) (kp : KP P ZB IB LB Z I L) (h1 : f_X6_keyOf v0 v1 v2 Z I L Q1) (hq : ∀ (x0 : Int64) (x1 : jI) (x2 : jL), KP P ZB IB LB Z x1 x2 → Q1 x0 x1 x2 → Q2 x0 x1 x2) : f_X6_keyOf v0 v1 v2 Z I L Q2 := by
  unfold f_X6_keyOf at h1 ⊢
  refine loc10_X6_moveTo  kp h1 (fun r7 I3 L4 kp h1 => ?_)
  intro b8 eb8
  have h1 := h1 b8 eb8
  have d44 := dn_10 d43 kp (by decide) eb8
  refine ⟨h1.1, ?_⟩
  have h1 := h1.2
  intro b10 eb10
  have h1 := h1 b10 eb10
  have d45 := dn_10 d43 kp (by decide) eb10
  refine ⟨h1.1, ?_⟩
  have h1 := h1.2
  refine loc10_X11_bitOf  kp h1 (fun r18 I14 L15 kp h1 => ?_)
  exact hq _ _ _ kp h1
set_option maxHeartbeats 4000000 in
theorem loc10_X7_sizeAt {P : Nat → Prop} {ZB : jZ} {IB : jI} {LB : jL} {v0 : Nat} {v1 : Int32} {Z : jZ} {I : jI} {L : jL} {Q1 Q2 : Int32 → jI → jL → Prop} (d47 : DN7 P ZB v0) (kp : KP P ZB IB LB Z I L) (h1 : f_X7_sizeAt v0 v1 Z I L Q1) (hq : ∀ (x0 : Int32) (x1 : jI) (x2 : jL), KP P ZB IB LB Z x1 x2 → Q1 x0 x1 x2 → Q2 x0 x1 x2) : f_X7_sizeAt v0 v1 Z I L Q2 := by
  unfold f_X7_sizeAt at h1 ⊢
  refine ⟨fun c => ?_, fun c => ?_⟩
  · have h1 := h1.1 c
    exact hq _ _ _ kp h1
  · have h1 := h1.2 c
    refine ⟨fun c => ?_, fun c => ?_⟩
    · have h1 := h1.1 c
      exact hq _ _ _ kp h1
    · have h1 := h1.2 c
      intro b3 eb3
      have h1 := h1 b3 eb3
      have d48 := dn_7 d47 kp (by decide) eb3
      refine ⟨h1.1, ?_⟩
      have h1 := h1.2
      exact hq _ _ _ kp h1
set_option maxHeartbeats 4000000 in
theorem loc10_X7_merge {P : Nat → Prop} {ZB : jZ} {IB : jI} {LB : jL} {v0 : Nat} {v1 : Int32} {v2 : Int64} {Z : jZ} {I : jI} {L : jL} {Q1 Q2 : jI → jL → Prop} (d46 : DN7 P ZB v0) (kp : KP P ZB IB LB Z I L) (h1 : f_X7_merge v0 v1 v2 Z I L Q1) (hq : ∀ (x0 : jI) (x1 : jL), KP P ZB IB LB Z x0 x1 → Q1 x0 x1 → Q2 x0 x1) : f_X7_merge v0 v1 v2 Z I L Q2 := by
  unfold f_X7_merge at h1 ⊢
  refine loc10_X7_sizeAt d46 kp h1 (fun r7 I3 L4 kp h1 => ?_)
  refine ⟨fun c => ?_, fun c => ?_⟩
  · have h1 := h1.1 c
    exact hq _ _ kp h1
  · have h1 := h1.2 c
    refine ⟨fun c => ?_, fun c => ?_⟩
    · have h1 := h1.1 c
      exact hq _ _ kp h1
    · have h1 := h1.2 c
      intro b10 eb10
      have h1 := h1 b10 eb10
      have d49 := dn_7 d46 kp (by decide) eb10
      intro b11 eb11
      have h1 := h1 b11 eb11
      have d50 := dn_7 d46 kp (by decide) eb11
      refine ⟨h1.1, ?_⟩
      have h1 := h1.2
      refine ⟨h1.1, ?_⟩
      have h1 := h1.2
      intro I14 eI14
      have h1 := h1 I14 eI14
      have kp := KP.wI kp d49 eI14
      intro b15 eb15
      have h1 := h1 b15 eb15
      have d51 := dn_7 d46 kp (by decide) eb15
      intro b16 eb16
      have h1 := h1 b16 eb16
      have d52 := dn_7 d46 kp (by decide) eb16
      refine ⟨h1.1, ?_⟩
      have h1 := h1.2
      refine ⟨h1.1, ?_⟩
      have h1 := h1.2
      intro I19 eI19
      have h1 := h1 I19 eI19
      have kp := KP.wI kp d51 eI19
      intro b20 eb20
      have h1 := h1 b20 eb20
      have d53 := dn_7 d46 kp (by decide) eb20
      refine ⟨h1.1, ?_⟩
      have h1 := h1.2
      intro L22 eL22
      have h1 := h1 L22 eL22
      have kp := KP.wL kp d53 eL22
      intro b23 eb23
      have h1 := h1 b23 eb23
      have d54 := dn_7 d46 kp (by decide) eb23
      intro b24 eb24
      have h1 := h1 b24 eb24
      have d55 := dn_7 d46 kp (by decide) eb24
      intro b25 eb25
      have h1 := h1 b25 eb25
      have d56 := dn_7 d46 kp (by decide) eb25
      refine ⟨h1.1, ?_⟩
      have h1 := h1.2
      refine ⟨h1.1, ?_⟩
      have h1 := h1.2
      refine ⟨h1.1, ?_⟩
      have h1 := h1.2
      intro L29 eL29
      have h1 := h1 L29 eL29
      have kp := KP.wL kp d54 eL29
      intro I30 eI30
      have h1 := h1 I30 eI30
      have kp := KP.wI kp d46.2.1 eI30
      intro I31 eI31
      have h1 := h1 I31 eI31
      have kp := KP.wI kp d46.2.1 eI31
      exact hq _ _ kp h1
set_option maxHeartbeats 4000000 in
theorem loc10_X6_lower_L10 {P : Nat → Prop} {ZB : jZ} {IB : jI} {LB : jL} {B : Nat × Nat} {Q1 Q2 : jZ → jI → jL → Prop} (hq : ∀ (x0 : jZ) (x1 : jI) (x2 : jL), KP P ZB IB LB x0 x1 x2 → Q1 x0 x1 x2 → Q2 x0 x1 x2) : ∀ (n : Nat) (v0 : Nat) (v1 : Int32) (v2 : Int32) (Z : jZ) (I : jI) (L : jL), DN10 P ZB v0 → KP P ZB IB LB Z I L → f_X6_lower_L10 B Q1 n v0 v1 v2 Z I L → f_X6_lower_L10 B Q2 n v0 v1 v2 Z I L := by
  intro n
  induction n with
  | zero => intro v0 v1 v2 Z I L d6 kp h1; exact h1.elim
  | succ n ih =>
    intro v0 v1 v2 Z I L d6 kp h1
    unfold f_X6_lower_L10 at h1 ⊢
    refine ⟨fun c => ?_, fun c => ?_⟩
    · have h1 := h1.1 c
      unfold f_X6_lower_b72 at h1 ⊢
      intro b1 eb1
      have h1 := h1 b1 eb1
      have d7 := dn_10_7 d6 kp eb1
      intro b2 eb2
      have h1 := h1 b2 eb2
      have d8 := dn_10 d6 kp (by decide) eb2
      refine ⟨h1.1, ?_⟩
      have h1 := h1.2
      refine loc10_X7_keepCheapest d7 kp h1 (fun Z5 I6 L7 kp h1 => ?_)
      exact hq _ _ _ kp h1
    · have h1 := h1.2 c
      refine ⟨fun c => ?_, fun c => ?_⟩
      · have h1 := h1.1 c
        unfold f_X6_lower_b72 at h1 ⊢
        intro b1 eb1
        have h1 := h1 b1 eb1
        have d36 := dn_10_7 d6 kp eb1
        intro b2 eb2
        have h1 := h1 b2 eb2
        have d37 := dn_10 d6 kp (by decide) eb2
        refine ⟨h1.1, ?_⟩
        have h1 := h1.2
        refine loc10_X7_keepCheapest d36 kp h1 (fun Z5 I6 L7 kp h1 => ?_)
        exact hq _ _ _ kp h1
      · have h1 := h1.2 c
        intro b14 eb14
        have h1 := h1 b14 eb14
        have d38 := dn_10 d6 kp (by decide) eb14
        refine ⟨h1.1, ?_⟩
        have h1 := h1.2
        refine ⟨fun c => ?_, fun c => ?_⟩
        · have h1 := h1.1 c
          unfold f_X6_lower_b72 at h1 ⊢
          intro b1 eb1
          have h1 := h1 b1 eb1
          have d39 := dn_10_7 d6 kp eb1
          intro b2 eb2
          have h1 := h1 b2 eb2
          have d40 := dn_10 d6 kp (by decide) eb2
          refine ⟨h1.1, ?_⟩
          have h1 := h1.2
          refine loc10_X7_keepCheapest d39 kp h1 (fun Z5 I6 L7 kp h1 => ?_)
          exact hq _ _ _ kp h1
        · have h1 := h1.2 c
          intro b17 eb17
          have h1 := h1 b17 eb17
          have d41 := dn_10 d6 kp (by decide) eb17
          refine ⟨h1.1, ?_⟩
          have h1 := h1.2
          refine ⟨fun c => ?_, fun c => ?_⟩
          · have h1 := h1.1 c
            unfold f_X6_lower_b66 at h1 ⊢
            intro x11 ex11
            have h1 := h1 x11 ex11
            exact ih _ _ _ _ _ _ d6 kp h1
          · have h1 := h1.2 c
            intro b20 eb20
            have h1 := h1 b20 eb20
            have d42 := dn_10_7 d6 kp eb20
            refine loc10_X6_keyOf d6 kp h1 (fun r27 I23 L24 kp h1 => ?_)
            refine loc10_X7_merge d42 kp h1 (fun I30 L31 kp h1 => ?_)
            unfold f_X6_lower_b66 at h1 ⊢
            intro x11 ex11
            have h1 := h1 x11 ex11
            exact ih _ _ _ _ _ _ d6 kp h1
set_option maxHeartbeats 4000000 in
theorem loc10_X6_lower {P : Nat → Prop} {ZB : jZ} {IB : jI} {LB : jL} {B : Nat × Nat} {v0 : Nat} {v1 : Int32} {Z : jZ} {I : jI} {L : jL} {Q1 Q2 : jZ → jI → jL → Prop} (d1 : DN10 P ZB v0) (kp : KP P ZB IB LB Z I L) (h1 : f_X6_lower B v0 v1 Z I L Q1) (hq : ∀ (x0 : jZ) (x1 : jI) (x2 : jL), KP P ZB IB LB x0 x1 x2 → Q1 x0 x1 x2 → Q2 x0 x1 x2) : f_X6_lower B v0 v1 Z I L Q2 := by
  unfold f_X6_lower at h1 ⊢
  intro b34 eb34
  have h1 := h1 b34 eb34
  have d2 := dn_10_7 d1 kp eb34
  refine loc10_X7_start d2 kp h1 (fun I37 L38 kp h1 => ?_)
  obtain ⟨n1, h1⟩ := h1
  exact ⟨n1, loc10_X6_lower_L10  hq n1 _ _ _ _ _ _ d1 kp h1⟩
/-! ===== Rows: the least of two joined ===== -/
theorem l_lt {x y : Int64} {A B : Int} (hx : x.toInt = A) (hy : y.toInt = B) : (lg_cmp x y < 0) ↔ A < B := by
  subst hx; subst hy
  have g : (x > y) ↔ y.toInt < x.toInt := Int64.lt_iff_toInt_lt
  have e : (x = y) ↔ x.toInt = y.toInt := ⟨fun h => by rw [h], fun h => Int64.toInt_inj.mp h⟩
  unfold lg_cmp
  by_cases c : x > y
  · rw [if_pos c]
    have := g.mp c
    exact ⟨fun h => absurd h (by decide), fun h => by omega⟩
  · rw [if_neg c]
    have c' := (not_congr g).mp c
    by_cases d : x = y
    · rw [if_pos d]
      have := e.mp d
      exact ⟨fun h => absurd h (by decide), fun h => by omega⟩
    · rw [if_neg d]
      have := (not_congr e).mp d
      exact ⟨fun _ => by omega, fun _ => by decide⟩
theorem l_eqz {x y : Int64} {A B : Int} (hx : x.toInt = A) (hy : y.toInt = B) : (lg_cmp x y = 0) ↔ A = B := by
  subst hx; subst hy
  have g : (x > y) ↔ y.toInt < x.toInt := Int64.lt_iff_toInt_lt
  have e : (x = y) ↔ x.toInt = y.toInt := ⟨fun h => by rw [h], fun h => Int64.toInt_inj.mp h⟩
  unfold lg_cmp
  by_cases c : x > y
  · rw [if_pos c]
    have := g.mp c
    exact ⟨fun h => absurd h (by decide), fun h => by omega⟩
  · rw [if_neg c]
    by_cases d : x = y
    · rw [if_pos d]
      exact ⟨fun _ => e.mp d, fun _ => rfl⟩
    · rw [if_neg d]
      exact ⟨fun h => absurd h (by decide), fun h => absurd (e.mpr h) d⟩
theorem tk_snoc {l : List Int} {i : Nat} {a : Int} (h : l[i]? = some a) : l.take (i + 1) = l.take i ++ [a] := by
  rw [List.take_succ, h]
  rfl
theorem JN_skip {l1 l2 : List Int} {lim v a : Int} {i : Nat} (h : JNs (l1.take i) l2 lim v) (ha : l1[i]? = some a) (hn : ∀ y, y ∈ l2 → ¬ eK a + eK y ≤ lim) : JNs (l1.take (i + 1)) l2 lim v := by
  rw [tk_snoc ha]
  rcases h with ⟨h1, h2⟩ | ⟨h1, ⟨x, y, hx, hy, h3, h4⟩, h2⟩
  · refine Or.inl ⟨h1, fun x y hx hy => ?_⟩
    rcases List.mem_append.mp hx with g | g
    · exact h2 x y g hy
    · rw [List.mem_singleton.mp g]
      exact hn y hy
  · refine Or.inr ⟨h1, ⟨x, y, List.mem_append_left _ hx, hy, h3, h4⟩, fun x y hx hy hl => ?_⟩
    rcases List.mem_append.mp hx with g | g
    · exact h2 x y g hy hl
    · rw [List.mem_singleton.mp g] at hl
      exact absurd hl (hn y hy)
theorem JN_take {l1 l2 : List Int} {lim v a y0 : Int} {i : Nat} (h : JNs (l1.take i) l2 lim v) (ha : l1[i]? = some a) (hy0 : y0 ∈ l2) (h0 : eK a + eK y0 ≤ lim) (hB : a + y0 - 16777215 < BIG) (hm : ∀ y, y ∈ l2 → eK a + eK y ≤ lim → y0 ≤ y) : JNs (l1.take (i + 1)) l2 lim (min v (a + y0 - 16777215)) := by
  rw [tk_snoc ha]
  have am : a ∈ l1.take i ++ [a] := List.mem_append_right _ List.mem_cons_self
  rcases h with ⟨h1, h2⟩ | ⟨h1, ⟨x, y, hx, hy, h3, h4⟩, h2⟩
  · rw [Int.min_eq_right (by omega)]
    refine Or.inr ⟨hB, ⟨a, y0, am, hy0, h0, rfl⟩, fun x y hx hy hl => ?_⟩
    rcases List.mem_append.mp hx with g | g
    · exact absurd hl (h2 x y g hy)
    · have e := List.mem_singleton.mp g
      rw [e] at hl ⊢
      have := hm y hy hl
      omega
  · by_cases c : v ≤ a + y0 - 16777215
    · rw [Int.min_eq_left c]
      refine Or.inr ⟨h1, ⟨x, y, List.mem_append_left _ hx, hy, h3, h4⟩, fun x y hx hy hl => ?_⟩
      rcases List.mem_append.mp hx with g | g
      · exact h2 x y g hy hl
      · have e := List.mem_singleton.mp g
        rw [e] at hl ⊢
        have := hm y hy hl
        omega
    · rw [Int.min_eq_right (by omega)]
      refine Or.inr ⟨hB, ⟨a, y0, am, hy0, h0, rfl⟩, fun x y hx hy hl => ?_⟩
      rcases List.mem_append.mp hx with g | g
      · have := h2 x y g hy hl
        omega
      · have e := List.mem_singleton.mp g
        rw [e] at hl ⊢
        have := hm y hy hl
        omega
theorem JN_stop {l1 l2 : List Int} {lim v : Int} {i : Nat} (h : JNs (l1.take i) l2 lim v) (hv : v < BIG) (hd : ∀ x y, x ∈ l1.drop i → y ∈ l2 → v ≤ x + y - 16777215) : JNs l1 l2 lim v := by
  rcases h with ⟨h1, h2⟩ | ⟨h1, ⟨x, y, hx, hy, h3, h4⟩, h2⟩
  · omega
  · refine Or.inr ⟨h1, ⟨x, y, List.mem_of_mem_take hx, hy, h3, h4⟩, fun x y hx hy hl => ?_⟩
    rw [← List.take_append_drop i l1] at hx
    rcases List.mem_append.mp hx with g | g
    · exact h2 x y g hy hl
    · exact hd x y g hy
theorem pw_idx {l : List Int} (h : l.Pairwise (fun a b => a < b ∧ eK b < eK a)) {i j : Nat} {x y : Int} (hx : l[i]? = some x) (hy : l[j]? = some y) (hij : i < j) : x < y ∧ eK y < eK x := by
  obtain ⟨hi, ex⟩ := List.getElem?_eq_some_iff.mp hx
  obtain ⟨hj, ey⟩ := List.getElem?_eq_some_iff.mp hy
  have g := List.pairwise_iff_getElem.mp h i j hi hj hij
  rw [ex, ey] at g
  exact g
theorem mem_ix {l : List Int} {x : Int} (h : x ∈ l) : ∃ j : Nat, l[j]? = some x := List.mem_iff_getElem?.mp h
theorem ix_mem {l : List Int} {j : Nat} {x : Int} (h : l[j]? = some x) : x ∈ l := List.mem_of_getElem? h
theorem ix_lt {l : List Int} {j : Nat} {x : Int} (h : l[j]? = some x) : j < l.length := (List.getElem?_eq_some_iff.mp h).1
theorem ix_ex {l : List Int} {j : Nat} (h : j < l.length) : ∃ x, l[j]? = some x := ⟨_, List.getElem?_eq_getElem h⟩
theorem drop_ix {l : List Int} {i : Nat} {x : Int} (h : x ∈ l.drop i) : ∃ j : Nat, i ≤ j ∧ l[j]? = some x := by
  obtain ⟨j, hj⟩ := mem_ix h
  rw [List.getElem?_drop] at hj
  exact ⟨i + j, by omega, hj⟩
/-- keyAt behind the end -/
theorem r_X7_keyAt_no {Z : jZ} {I : jI} {L : jL} (v0 : Nat) (v1 v2 : Int32) (b0 b1 b2 b4 b5 b6 b7 : Nat) (hc : RCs Z v0 b0 b1 b2 b4 b5 b6 b7) (p i : Nat) (hp : p < 25) (e1v : v1.toInt = (p : Int)) (e2v : v2.toInt = (i : Int)) (R : Nat → List Int) (hR : RRb I L b0 b1 b2 R) (hk : (R p).length ≤ i) {Q : Int64 → jI → jL → Prop} (hQ : Q (9223372036854775807 : Int64) I L) : f_X7_keyAt v0 v1 v2 Z I L Q := by
  unfold f_X7_keyAt f_X7_keyAt_b29
  refine ⟨fun _ => hQ, fun _ => r_X7_sizeAt v0 v1 b0 b1 b2 b4 b5 b6 b7 hc p e1v hp R hR (fun r er => ⟨fun _ => hQ, fun c => absurd ((i_le er e2v).mpr (by omega)) c⟩)⟩
set_option maxHeartbeats 2000000 in
theorem lj_L86 {Z : jZ} {I : jI} {L : jL} (w : WD Z I) (v0 v2 : Nat) (v1 v3 v4 v5 : Int32) (k2 : jk Z v2 7) (d0 d1 d2 d4 d5 d6 d7 : Nat) (hc2 : RCs Z v2 d0 d1 d2 d4 d5 d6 d7) (q : Nat) (hq : q < 25) (e3 : v3.toInt = (q : Int)) (R2 : Nat → List Int) (hR2 : RRb I L d0 d1 d2 R2) (s2 : (R2 q).Pairwise (fun a b => a < b ∧ eK b < eK a)) (x2 : ∀ x, x ∈ R2 q → 0 ≤ x ∧ x < 1152921504606846976) (hn2 : (R2 q).length ≤ 2000000) (v7 v9 v12 : Int64) (v11 v14 : Int32) (rest : Int) (e14 : v14.toInt = rest) {K : Nat → Int32 → Nat → Int32 → Int32 → Int32 → Int32 → Int64 → Int64 → Int32 → jI → jL → Prop} {Q : Int64 → jI → jL → Prop}
    (hk : ∀ (j : Nat) (v6 : Int32), v6.toInt = (j : Int) → j ≤ (R2 q).length → (∀ (j' : Nat) (y : Int), (R2 q)[j']? = some y → j ≤ j' → eK y ≤ rest) → (∀ (j' : Nat) (y : Int), (R2 q)[j']? = some y → j' < j → rest < eK y) → f_X7_leastJoined_b114 K Z Q v0 v1 v2 v3 v4 v5 v6 v7 v9 v11 v12 I L) :
    ∀ (m j : Nat) (v6 : Int32), j + 1 ≤ m → v6.toInt = (j : Int) → j ≤ (R2 q).length → (∀ (j' : Nat) (y : Int), (R2 q)[j']? = some y → j ≤ j' → eK y ≤ rest) → f_X7_leastJoined_L86 K Z Q m v0 v1 v2 v3 v4 v5 v6 v7 v9 v11 v12 v14 I L := by
  have z0 : (0 : Int32).toInt = 0 := rfl
  have z1 : (1 : Int32).toInt = 1 := rfl
  intro m
  induction m with
  | zero => intro j v6 hm; omega
  | succ m ih =>
    intro j v6 hm e6 hj hpt
    unfold f_X7_leastJoined_L86
    refine ⟨fun c => ?_, fun c => ?_⟩
    · have c := (i_le e6 z0).mp c
      exact hk j v6 e6 hj hpt (fun j' y _ h => by omega)
    have c := (not_congr (i_le e6 z0)).mp c
    obtain ⟨y, hy⟩ := ix_ex (l := R2 q) (j := j - 1) (by omega)
    have ym := x2 y (ix_mem hy)
    refine r_X7_keyAt w v2 v3 _ k2 d0 d1 d2 d4 d5 d6 d7 hc2 q (j - 1) hq e3 ((i_sub e6 z1 (by omega) (by omega)).trans (by omega)) R2 hR2 y hy (fun r18 e18 => ?_)
    refine c_effortIn e18 ym.1 (fun r25 e25 => ⟨fun c2 => ?_, fun c2 x27 e27 => ?_⟩)
    · have c2 := (i_lt e14 e25).mp c2
      refine hk j v6 e6 hj hpt (fun j' y' hy' hlt => ?_)
      by_cases ej : j' = j - 1
      · rw [ej, hy] at hy'
        cases hy'
        exact c2
      · have := (pw_idx s2 hy' hy (by omega)).2
        omega
    · have c2 := (not_congr (i_lt e14 e25)).mp c2
      refine ih (j - 1) x27 (by omega) (by rw [e27]; exact (i_add e6 (show (-1 : Int32).toInt = -1 by decide) (by omega) (by omega)).trans (by omega)) (by omega) (fun j' y' hy' hle => ?_)
      by_cases ej : j' = j - 1
      · rw [ej, hy] at hy'
        cases hy'
        omega
      · exact hpt j' y' hy' (by omega)
set_option maxHeartbeats 4000000 in
theorem lj_L31 {Z : jZ} {I : jI} {L : jL} (w : WD Z I) (v0 v2 : Nat) (v1 v3 v4 v5 : Int32) (k0 : jk Z v0 7) (k2 : jk Z v2 7) (b0 b1 b2 b4 b5 b6 b7 : Nat) (hc0 : RCs Z v0 b0 b1 b2 b4 b5 b6 b7) (d0 d1 d2 d4 d5 d6 d7 : Nat) (hc2 : RCs Z v2 d0 d1 d2 d4 d5 d6 d7) (p q : Nat) (hp : p < 25) (hq : q < 25) (e1 : v1.toInt = (p : Int)) (e3 : v3.toInt = (q : Int)) (R R2 : Nat → List Int) (hR : RRb I L b0 b1 b2 R) (hR2 : RRb I L d0 d1 d2 R2) (lim : Int) (e4 : v4.toInt = lim) (bl : -100000 ≤ lim ∧ lim ≤ 100000) (s1 : (R p).Pairwise (fun a b => a < b ∧ eK b < eK a)) (s2 : (R2 q).Pairwise (fun a b => a < b ∧ eK b < eK a)) (x1 : ∀ x, x ∈ R p → 0 ≤ x ∧ x < 1152921504606846976) (x2 : ∀ x, x ∈ R2 q → 0 ≤ x ∧ x < 1152921504606846976) (hn1 : (R p).length ≤ 2000000) (hn2 : (R2 q).length ≤ 2000000) (e5 : v5.toInt = ((R2 q).length : Int)) (v9 : Int64) (h9 : (R2 q).length ≠ 0 → ∃ y0, (R2 q)[0]? = some y0 ∧ v9.toInt = y0 - 16777215) {Q : Int64 → jI → jL → Prop} (hQ : ∀ r : Int64, JNs (R p) (R2 q) lim r.toInt → Q r I L) :
    ∀ (k i j : Nat) (v6 : Int32) (v7 : Int64) (v11 : Int32), (R p).length + 1 ≤ k + i → i ≤ (R p).length → v11.toInt = (i : Int) → v6.toInt = (j : Int) → j ≤ (R2 q).length → JNs ((R p).take i) (R2 q) lim v7.toInt → (∀ (a : Int) (i' : Nat), i ≤ i' → (R p)[i']? = some a → ∀ (j' : Nat) (y : Int), (R2 q)[j']? = some y → j ≤ j' → eK y ≤ lim - eK a) → f_X7_leastJoined_L31 Z Q k v0 v1 v2 v3 v4 v5 v6 v7 v9 v11 I L := by
  have z0 : (0 : Int32).toInt = 0 := rfl
  have z1 : (1 : Int32).toInt = 1 := rfl
  have zN : (16777215 : Int64).toInt = 16777215 := rfl
  obtain ⟨g0, g1, g2, g4, g5, g6, g7⟩ := hc0
  have hcc : RCs Z v0 b0 b1 b2 b4 b5 b6 b7 := ⟨g0, g1, g2, g4, g5, g6, g7⟩
  obtain ⟨c0, c1, c2, c4, c5, r0, r1, r2, r4, r5, kk0, kk1, kk2, kk4, kk5, n1, n2, n4, n5, n12, n14, n15, n24, n25, n45, t1, t2, t3, t4, t5, t6⟩ := rows_at w k0
  cases g0.symm.trans r0; cases g1.symm.trans r1; cases g2.symm.trans r2
  have qn : v1.toNatClampNeg = p := by have := i_nat e1 (by omega); omega
  intro k
  induction k with
  | zero => intro i j v6 v7 v11 hk hi; omega
  | succ k ih =>
    intro i j v6 v7 v11 hk hi e11 e6 hj hJ hpt
    have done : i = (R p).length → Q v7 I L := fun ei => by
      rw [ei, List.take_length] at hJ
      exact hQ v7 hJ
    unfold f_X7_leastJoined_L31
    refine r_X7_sizeAt v0 v1 b0 b1 b2 b4 b5 b6 b7 hcc p e1 hp R hR (fun r34 e34 => ?_)
    unfold f_X7_leastJoined_b148
    refine ⟨fun c => ?_, fun c => ⟨fun c2 => ?_, fun c2 => ?_⟩⟩
    · have c := (i_le e34 e11).mp c
      exact done (by omega)
    · have c2 := (i_le e5 z0).mp c2
      have hz : R2 q = [] := List.length_eq_zero_iff.mp (by omega)
      refine hQ v7 ?_
      rcases hJ with ⟨h1, -⟩ | ⟨-, ⟨x, y, -, hy, -⟩, -⟩
      · refine Or.inl ⟨h1, fun x y _ hy => ?_⟩
        rw [hz] at hy
        exact absurd hy List.not_mem_nil
      · rw [hz] at hy
        exact absurd hy List.not_mem_nil
    have c := (not_congr (i_le e34 e11)).mp c
    have c2 := (not_congr (i_le e5 z0)).mp c2
    obtain ⟨y0, hy0, e9⟩ := h9 (by omega)
    have y0m := x2 y0 (ix_mem hy0)
    obtain ⟨a, ha⟩ := ix_ex (l := R p) (j := i) (by omega)
    have am := x1 a (ix_mem ha)
    have hsz := (hR p hp).1
    have t4p := t4 p hp
    have t4q := t4p.2 (by omega)
    intro b h; cases g0.symm.trans h
    intro b h; cases g1.symm.trans h
    rw [qn]
    have t := i_add (x := I b1 p) (y := v11) rfl e11 (by omega) (by omega)
    refine ⟨vi_of e1 (by omega) (by omega), vi_of t (by omega) (by omega), ?_⟩
    intro x41 e41
    have ea : x41.toInt = a := by
      have n1' := i_nat (x := I b1 p) rfl t4q.1
      have n2' := i_nat t (by omega)
      rw [e41, show (I b1 p + v11).toNatClampNeg = (I b1 p).toNatClampNeg + i by omega]
      exact (hR p hp).2 i a ha
    have es : (x41 + v9).toInt = a + (y0 - 16777215) := l_add ea e9 (by omega) (by omega)
    have ymin : ∀ y, y ∈ R2 q → y0 ≤ y := fun y hy => by
      obtain ⟨j', hj'⟩ := mem_ix hy
      by_cases z : j' = 0
      · rw [z, hy0] at hj'
        cases hj'
        exact Int.le_refl _
      · have := (pw_idx s2 hy0 hj' (by omega)).1
        omega
    refine ⟨fun c3 => ?_, fun c3 => ?_⟩
    · refine c_effortIn ea am.1 (fun r49 e49 x50 e50 => ?_)
      have ek := eK_rng a
      have e50' : x50.toInt = lim - eK a := by rw [e50]; exact i_sub e4 e49 (by omega) (by omega)
      refine ⟨(R2 q).length + 1, lj_L86 w v0 v2 v1 v3 v4 v5 k2 d0 d1 d2 d4 d5 d6 d7 hc2 q hq e3 R2 hR2 s2 x2 hn2 v7 v9 x41 v11 x50 (lim - eK a) e50' (fun j2 v6' e6' hj2 p1 p2 => ?_) ((R2 q).length + 1) j v6 (by omega) e6 hj (fun j' y hy hle => hpt a i (Nat.le_refl _) ha j' y hy hle)⟩
      have nx : ∀ x : Int32, x = v11 + 1 → x.toInt = ((i + 1 : Nat) : Int) := fun x ex => by
        rw [ex]
        exact (i_add e11 z1 (by omega) (by omega)).trans (by omega)
      have hpt' : ∀ (a' : Int) (i' : Nat), i + 1 ≤ i' → (R p)[i']? = some a' → ∀ (j' : Nat) (y : Int), (R2 q)[j']? = some y → j2 ≤ j' → eK y ≤ lim - eK a' := fun a' i' hi' ha' j' y hy hle => by
        have := (pw_idx s1 ha ha' (by omega)).2
        have := p1 j' y hy hle
        omega
      unfold f_X7_leastJoined_b114 f_X7_leastJoined_b142
      refine ⟨fun c4 x1' ex1 => ?_, fun c4 => ?_⟩
      · have c4 := (i_le e5 e6').mp c4
        refine ih (i + 1) j2 v6' v7 x1' (by omega) (by omega) (nx x1' ex1) e6' hj2 (JN_skip hJ ha (fun y hy hle => ?_)) hpt'
        obtain ⟨j', hj'⟩ := mem_ix hy
        have := p2 j' y hj' (by have := ix_lt hj'; omega)
        omega
      · have c4 := (not_congr (i_le e5 e6')).mp c4
        obtain ⟨y, hy⟩ := ix_ex (l := R2 q) (j := j2) (by omega)
        have ym := x2 y (ix_mem hy)
        refine r_X7_keyAt w v2 v3 v6' k2 d0 d1 d2 d4 d5 d6 d7 hc2 q j2 hq e3 e6' R2 hR2 y hy (fun r9 e9' x10 e10 x1' ex1 => ?_)
        have ej : ((x41 + r9) - (16777215 : Int64)).toInt = a + y - 16777215 := l_sub (l_add ea e9' (by omega) (by omega)) zN (by omega) (by omega)
        have em : x10.toInt = min v7.toInt (a + y - 16777215) := by
          rw [e10]
          by_cases c5 : ((x41 + r9) - (16777215 : Int64)) < v7
          · rw [if_pos c5, ej]
            have c5 := Int64.lt_iff_toInt_lt.mp c5
            rw [ej] at c5
            rw [Int.min_eq_right (by omega)]
          · rw [if_neg c5]
            have c5 := (not_congr Int64.lt_iff_toInt_lt).mp c5
            rw [ej] at c5
            rw [Int.min_eq_left (by omega)]
        refine ih (i + 1) j2 v6' x10 x1' (by omega) (by omega) (nx x1' ex1) e6' hj2 ?_ hpt'
        rw [em]
        have le0 := p1 j2 y hy (Nat.le_refl _)
        refine JN_take hJ ha (ix_mem hy) (by omega) (by unfold BIG; omega) (fun y' hy' hle => ?_)
        obtain ⟨j', hj'⟩ := mem_ix hy'
        by_cases cj : j' < j2
        · have := p2 j' y' hj' cj
          omega
        · by_cases cj2 : j' = j2
          · rw [cj2, hy] at hj'
            cases hj'
            exact Int.le_refl _
          · have := (pw_idx s2 hy hj' (by omega)).1
            omega
    · have c3 := (not_congr (l_lt es (y := v7) rfl)).mp c3
      refine hQ v7 (JN_stop hJ (by unfold BIG; omega) (fun x y hx hy => ?_))
      obtain ⟨i', hi', hx'⟩ := drop_ix hx
      have ly := ymin y hy
      by_cases ci : i' = i
      · rw [ci, ha] at hx'
        cases hx'
        omega
      · have := (pw_idx s1 ha hx' (by omega)).1
        omega
theorem r_X7_leastJoined {Z : jZ} {I : jI} {L : jL} (w : WD Z I) (v0 v2 : Nat) (v1 v3 v4 : Int32) (k0 : jk Z v0 7) (k2 : jk Z v2 7) (b0 b1 b2 b4 b5 b6 b7 : Nat) (hc0 : RCs Z v0 b0 b1 b2 b4 b5 b6 b7) (d0 d1 d2 d4 d5 d6 d7 : Nat) (hc2 : RCs Z v2 d0 d1 d2 d4 d5 d6 d7) (p q : Nat) (hp : p < 25) (hq : q < 25) (e1 : v1.toInt = (p : Int)) (e3 : v3.toInt = (q : Int)) (R R2 : Nat → List Int) (hR : RRb I L b0 b1 b2 R) (hR2 : RRb I L d0 d1 d2 R2) (lim : Int) (e4 : v4.toInt = lim) (bl : -100000 ≤ lim ∧ lim ≤ 100000) (s1 : (R p).Pairwise (fun a b => a < b ∧ eK b < eK a)) (s2 : (R2 q).Pairwise (fun a b => a < b ∧ eK b < eK a)) (x1 : ∀ x, x ∈ R p → 0 ≤ x ∧ x < 1152921504606846976) (x2 : ∀ x, x ∈ R2 q → 0 ≤ x ∧ x < 1152921504606846976) (hn1 : (R p).length ≤ 2000000) (hn2 : (R2 q).length ≤ 2000000) {Q : Int64 → jI → jL → Prop} (hQ : ∀ r : Int64, JNs (R p) (R2 q) lim r.toInt → Q r I L) : f_X7_leastJoined v0 v1 v2 v3 v4 Z I L Q := by
  have zN : (16777215 : Int64).toInt = 16777215 := rfl
  have J0 : JNs ((R p).take 0) (R2 q) lim (9223372036854775807 : Int64).toInt := by
    rw [List.take_zero]
    exact Or.inl ⟨rfl, fun x y hx => absurd hx List.not_mem_nil⟩
  unfold f_X7_leastJoined
  refine r_X7_sizeAt v2 v3 d0 d1 d2 d4 d5 d6 d7 hc2 q e3 hq R2 hR2 (fun r58 e58 => ?_)
  have go : ∀ x66 : Int64, ((R2 q).length ≠ 0 → ∃ y0, (R2 q)[0]? = some y0 ∧ x66.toInt = y0 - 16777215) → ∃ m31, f_X7_leastJoined_L31 Z Q m31 v0 v1 v2 v3 v4 r58 r58 (9223372036854775807 : Int64) x66 (0 : Int32) I L := fun x66 h9 =>
    ⟨(R p).length + 1, lj_L31 w v0 v2 v1 v3 v4 r58 k0 k2 b0 b1 b2 b4 b5 b6 b7 hc0 d0 d1 d2 d4 d5 d6 d7 hc2 p q hp hq e1 e3 R R2 hR hR2 lim e4 bl s1 s2 x1 x2 hn1 hn2 e58 x66 h9 hQ _ 0 (R2 q).length r58 _ 0 (Nat.le_refl _) (Nat.zero_le _) rfl e58 (Nat.le_refl _) J0 (fun a i' _ _ j' y hy hle => by have := ix_lt hy; omega)⟩
  by_cases hz : (R2 q).length = 0
  · exact r_X7_keyAt_no v2 v3 0 d0 d1 d2 d4 d5 d6 d7 hc2 q 0 hq e3 rfl R2 hR2 (by omega) (fun x66 _ => go x66 (fun h => absurd hz h))
  · obtain ⟨y0, hy0⟩ := ix_ex (l := R2 q) (j := 0) (by omega)
    have y0m := x2 y0 (ix_mem hy0)
    refine r_X7_keyAt w v2 v3 0 k2 d0 d1 d2 d4 d5 d6 d7 hc2 q 0 hq e3 rfl R2 hR2 y0 hy0 (fun r65 e65 x66 e66 => go x66 (fun _ => ⟨y0, hy0, ?_⟩))
    rw [e66]
    exact l_sub e65 zN (by omega) (by omega)
end
section
/-! ===== Routes: the ends of climbs ===== -/
def SRe (lp n : Nat) (op : Nat → Prop) (C E : Nat → Nat → Int) (R : Nat → List Int) (q far m : Nat) (S : Nat → List Int) : Prop := (∀ i, m ≤ i → S i = []) ∧ (∀ i x, x ∈ S i → ∃ f, alu lp n op q f ∧ ∃ y, y ∈ R (q + f) ∧ x = y + mvK C E (q + f) f) ∧ (op q → ∀ f y, f < far → alu lp n op q f → y ∈ R (q + f) → ∃ i, i < m ∧ y + mvK C E (q + f) f ∈ S i) ∧ (∀ i, srt (S i)) ∧ (∀ i x, x ∈ S i → 0 ≤ x ∧ x < BIG)
theorem SRe_0 {lp n : Nat} {op : Nat → Prop} {C E : Nat → Nat → Int} {R : Nat → List Int} {q : Nat} : SRe lp n op C E R q 1 0 (fun _ => []) := ⟨fun _ _ => rfl, fun _ _ h => absurd h List.not_mem_nil, fun _ f y h ha _ => by have := ha.1; omega, fun _ => List.Pairwise.nil, fun _ _ h => absurd h List.not_mem_nil⟩
theorem SRe_skip {lp n : Nat} {op : Nat → Prop} {C E : Nat → Nat → Int} {R : Nat → List Int} {q far m : Nat} {S : Nat → List Int} (h : SRe lp n op C E R q far m S) (e : alu lp n op q far → R (q + far) = []) : SRe lp n op C E R q (far + 1) m S := by
  obtain ⟨s1, s2, s3, s4, s5⟩ := h
  refine ⟨s1, s2, fun o f y hf ha hy => ?_, s4, s5⟩
  by_cases c : f = far
  · subst c
    rw [e ha] at hy
    exact absurd hy List.not_mem_nil
  · exact s3 o f y (by omega) ha hy
theorem SRe_add {lp n : Nat} {op : Nat → Prop} {C E : Nat → Nat → Int} {R : Nat → List Int} {q far m : Nat} {S : Nat → List Int} (h : SRe lp n op C E R q far m S) (ha : alu lp n op q far) (hs : srt (R (q + far))) (hx : ∀ y, y ∈ R (q + far) → 0 ≤ y + mvK C E (q + far) far ∧ y + mvK C E (q + far) far < BIG) : SRe lp n op C E R q (far + 1) (m + 1) (fun i => if i = m then (R (q + far)).map (fun x => x + mvK C E (q + far) far) else S i) := by
  obtain ⟨s1, s2, s3, s4, s5⟩ := h
  have mem : ∀ i x, x ∈ (fun i => if i = m then (R (q + far)).map (fun x => x + mvK C E (q + far) far) else S i) i → (∃ y, y ∈ R (q + far) ∧ x = y + mvK C E (q + far) far) ∨ x ∈ S i := fun i x hxm => by
    have hxm : x ∈ (if i = m then (R (q + far)).map (fun x => x + mvK C E (q + far) far) else S i) := hxm
    by_cases c : i = m
    · rw [if_pos c] at hxm
      obtain ⟨y, hy, ey⟩ := List.mem_map.mp hxm
      exact Or.inl ⟨y, hy, ey.symm⟩
    · rw [if_neg c] at hxm
      exact Or.inr hxm
  refine ⟨fun i hi => ?_, fun i x hxm => ?_, fun o f y hf hb hy => ?_, fun i => ?_, fun i x hxm => ?_⟩
  · show (if i = m then (R (q + far)).map (fun x => x + mvK C E (q + far) far) else S i) = []
    rw [if_neg (by omega)]
    exact s1 i (by omega)
  · rcases mem i x hxm with ⟨y, hy, ey⟩ | g
    · exact ⟨far, ha, y, hy, ey⟩
    · exact s2 i x g
  · by_cases c : f = far
    · subst c
      refine ⟨m, Nat.lt_succ_self _, ?_⟩
      show y + mvK C E (q + f) f ∈ (if m = m then (R (q + f)).map (fun x => x + mvK C E (q + f) f) else S m)
      rw [if_pos rfl]
      exact List.mem_map.mpr ⟨y, hy, rfl⟩
    · obtain ⟨i, hi, hm⟩ := s3 o f y (by omega) hb hy
      refine ⟨i, by omega, ?_⟩
      show y + mvK C E (q + f) f ∈ (if i = m then (R (q + far)).map (fun x => x + mvK C E (q + far) far) else S i)
      rw [if_neg (by omega)]
      exact hm
  · show srt (if i = m then (R (q + far)).map (fun x => x + mvK C E (q + far) far) else S i)
    by_cases c : i = m
    · rw [if_pos c]
      exact srt_map hs
    · rw [if_neg c]
      exact s4 i
  · rcases mem i x hxm with ⟨y, hy, ey⟩ | g
    · rw [ey]
      exact hx y hy
    · exact s5 i x g
/-- a row of ends that is ready -/
def EROW (lp : Nat) (op : Nat → Prop) (C E : Nat → Nat → Int) (P K : Int) (lf : Nat → Int) (n q : Nat) (l : List Int) : Prop := EWs lp op C E P (K - lf q) n q l ∧ l.Pairwise (fun a b => a < b ∧ eK b < eK a)
theorem EROW_srt {lp : Nat} {op : Nat → Prop} {C E : Nat → Nat → Int} {P K : Int} {lf : Nat → Int} {n q : Nat} {l : List Int} (h : EROW lp op C E P K lf n q l) : srt l := h.2.imp (fun {a b} q => by omega)
theorem EROW_rng {lp n : Nat} {op : Nat → Prop} {C E : Nat → Nat → Int} {P K : Int} {lf : Nat → Int} {q far : Nat} {l : List Int} (hn : n ≤ 24) (h1 : 1 ≤ far) (h2 : q + far ≤ n) (hC : ∀ p f, 0 ≤ C p f ∧ C p f ≤ 297) (hE : ∀ p f, 0 ≤ E p f ∧ E p f ≤ 600) (hK : K ≤ 999) (h0 : ∀ q, 0 ≤ lf q) (h : EROW lp op C E P K lf n (q + far) l) : ∀ y, y ∈ l → 0 ≤ y + mvK C E (q + far) far ∧ y + mvK C E (q + far) far < BIG := by
  intro y hy
  obtain ⟨m, c, e, b, hx, ek, he, hc⟩ := h.1.1 y hy
  have r := PX_up_b hn hC hE hx
  have hb := PX_bits _ _ _ _ _ _ hn hx
  have l := btP_less (p := q + far) (by omega) far h1 (by omega)
  rw [show q + far - far = q by omega] at l
  have bp := btP_pos (q + far)
  have bn := btP_pos n
  have b0 := btP_top q
  have c9 := hC (q + far) far
  have e9 := hE (q + far) far
  have u0 := h0 (q + far)
  rw [ek]
  unfold kf mvK BIG
  omega
set_option maxHeartbeats 4000000 in
theorem c_lower_L10 {B : Nat × Nat} {Z : jZ} {I : jI} {L : jL} (w_I : WD Z I) (v0 u10 : Nat) (v1 : Int32) (kv0 : jk Z v0 6) (h10 : jr Z v0 10 = some u10) (k10 : jk Z u10 7) (b0 b1 b2 b4 b5 b6 b7 : Nat) (hc : RCs Z u10 b0 b1 b2 b4 b5 b6 b7) (u4 u5 u6 u7 lp n : Nat) (op : Nat → Prop) (C E : Nat → Nat → Int) (lu : Nat → Int) (hM : MVs Z I v0 u4 u5 u6 u7 lp n op C E lu) (hlp : lp ≤ 3) (hn : n ≤ 24) (hC : ∀ p f, 0 ≤ C p f ∧ C p f ≤ 297) (hE : ∀ p f, 0 ≤ E p f ∧ E p f ≤ 600) (q : Nat) (hq1 : 1 ≤ q) (hqn : q < n) (e1v : v1.toInt = (q : Int)) (R : Nat → List Int) (hsR : ∀ p, q < p → p ≤ n → srt (R p)) (hxR : ∀ f y, alu lp n op q f → y ∈ R (q + f) → 0 ≤ y + mvK C E (q + f) f ∧ y + mvK C E (q + f) f < BIG) {Q : jZ → jI → jL → Prop}
    (hQ : ∀ (I' : jI) (L' : jL) (S : Nat → List Int) (m : Nat), WD Z I' → FR W7 Z I Z I' → RO u10 Z I I' → I' u10 3 = I u10 3 → RRb I' L' b0 b1 b2 R → MGb I' L' u10 b0 b4 b5 b6 b7 S m → CUr I' u10 b1 R q → SRCe lp n op C E R q S (m - 1) → cnS S (m - 1 + 1) = cnS S m → (∀ i, srt (S i)) → (∀ i x, x ∈ S i → 0 ≤ x ∧ x < BIG) → (∀ x, x ≠ b6 → x ≠ b7 → L' x = L x) → f_X6_lower_b72 B Q v0 v1 Z I' L') :
    ∀ (k far m : Nat) (v2 : Int32) (I1 : jI) (L1 : jL) (S : Nat → List Int), 1 ≤ far → far ≤ 4 → 5 ≤ k + far → v2.toInt = (far : Int) → m + 1 ≤ far → SRe lp n op C E R q far m S → WD Z I1 → FR W7 Z I Z I1 → RO u10 Z I I1 → I1 u10 3 = I u10 3 → RRb I1 L1 b0 b1 b2 R → MGb I1 L1 u10 b0 b4 b5 b6 b7 S m → CUr I1 u10 b1 R q → (∀ x, x ≠ b6 → x ≠ b7 → L1 x = L x) → f_X6_lower_L10 B Q k v0 v1 v2 Z I1 L1 := by
  have z1 : (1 : Int32).toInt = 1 := rfl
  have qn : v1.toNatClampNeg = q := by have := i_nat e1v (by omega); omega
  intro k
  induction k with
  | zero => intro far m v2 I1 L1 S h1 h4 hk; omega
  | succ k ih =>
    intro far m v2 I1 L1 S h1 h4 hk e2v hm hS w fr ro a3 hR hMG hcu hL
    have hM1 := MVs_fr w_I kv0 fr hM
    obtain ⟨⟨g4, g5, g6, g7⟩, m3, m15, mo, mm, mu⟩ := hM1
    have done : (op q → ∀ f, alu lp n op q f → f < far) → f_X6_lower_b72 B Q v0 v1 Z I1 L1 := fun hd => by
      obtain ⟨s1, s2, s3, s4, s5⟩ := hS
      refine hQ I1 L1 S m w fr ro a3 hR hMG hcu ⟨fun i x _ hx => s2 i x hx, fun o f y ha hy => ?_⟩ ?_ s4 s5 hL
      · obtain ⟨i, hi, hm'⟩ := s3 o f y (hd o f ha) ha hy
        exact ⟨i, by omega, hm'⟩
      · cases m with
        | zero =>
          show 0 + (S 0).length = 0
          rw [s1 0 (Nat.le_refl _)]
          rfl
        | succ m => rfl
    have t12 := i_add e1v e2v (by omega) (by omega)
    have n12 : (v1 + v2).toNatClampNeg = q + far := by have := i_nat t12 (by omega); omega
    have nx : ∀ x : Int32, x = v2 + 1 → x.toInt = ((far + 1 : Nat) : Int) := fun x ex => by
      rw [ex]
      exact (i_add e2v z1 (by omega) (by omega)).trans (by omega)
    unfold f_X6_lower_L10
    refine ⟨fun c => done (fun _ f ha => ?_), fun c => ⟨fun c2 => done (fun _ f ha => ?_), fun c2 => ?_⟩⟩
    · have c := (i_lt m3 e2v).mp c
      have := ha.2.1
      omega
    · have c2 := (i_lt m15 t12).mp c2
      have := ha.2.2.1
      omega
    have c := (not_congr (i_lt m3 e2v)).mp c
    have c2 := (not_congr (i_lt m15 t12)).mp c2
    intro b h; cases g6.symm.trans h
    rw [qn]
    refine ⟨vi_of e1v (by omega) (by omega), fun c3 => done (fun o _ _ => absurd c3 ((mo q (by omega)).mpr o)), fun c3 => ?_⟩
    intro b h; cases g6.symm.trans h
    rw [n12]
    refine ⟨vi_of t12 (by omega) (by omega), fun c4 => ?_, fun c4 => ?_⟩
    · unfold f_X6_lower_b66
      intro x ex
      exact ih (far + 1) m x I1 L1 S (by omega) (by omega) (by omega) (nx x ex) (by omega) (SRe_skip hS (fun ha => absurd c4 ((mo (q + far) (by omega)).mpr ha.2.2.2))) w fr ro a3 hR hMG hcu hL
    have ho : op (q + far) := (mo (q + far) (by omega)).mp c4
    have ha : alu lp n op q far := ⟨h1, by omega, by omega, ho⟩
    obtain ⟨mc, me⟩ := mm (q + far) far ⟨h1, by omega, by omega, ho⟩ (by omega)
    intro b h; cases h10.symm.trans h
    refine c_keyOf v0 (v1 + v2) v2 u4 u5 g4 g5 (q + far) far (t12.trans (by omega)) e2v ⟨by omega, by omega⟩ ⟨h1, by omega⟩ mc me (hC (q + far) far) (hE (q + far) far) (fun r er => ?_)
    refine r_X7_merge w u10 (v1 + v2) r k10 b0 b1 b2 b4 b5 b6 b7 hc (q + far) (t12.trans (by omega)) (by omega) R hR S m hMG (by omega) _ er (fun x hx => hxR far x ha hx) (fun e => ?_) (fun I' L' w' f' fi' ro' a3' a1' hne hR' hMG' lo' => ?_)
    · unfold f_X6_lower_b66
      intro x ex
      exact ih (far + 1) m x I1 L1 S (by omega) (by omega) (by omega) (nx x ex) (by omega) (SRe_skip hS (fun _ => e)) w fr ro a3 hR hMG hcu hL
    · unfold f_X6_lower_b66
      intro x ex
      refine ih (far + 1) (m + 1) x I' L' _ (by omega) (by omega) (by omega) (nx x ex) (by omega) (SRe_add hS ha (hsR _ (by omega) (by omega)) (fun y hy => hxR far y ha hy)) w' (FR.trans w_I.1 w_I.2.1 fr f') (RO.trans jext_rfl ro ro') (a3'.trans a3) hR' hMG' ?_ (fun x h6 h7 => (lo' x h6 h7).trans (hL x h6 h7))
      unfold CUr
      rw [a1', a3']
      exact hcu
set_option maxHeartbeats 4000000 in
theorem r_X6_lower {B : Nat × Nat} {T : Nat} {Z : jZ} {I : jI} {L : jL} (w_I : WD Z I) (bd : BUD B Z T) (v0 : Nat) (v1 : Int32) (kv0 : jk Z v0 6) (u10 u8 : Nat) (h10 : jr Z v0 10 = some u10) (h8 : jr Z v0 8 = some u8) (b0 b1 b2 b4 b5 b6 b7 : Nat) (hc : RCs Z u10 b0 b1 b2 b4 b5 b6 b7) (u4 u5 u6 u7 lp n : Nat) (op : Nat → Prop) (C E : Nat → Nat → Int) (lu lf : Nat → Int) (hM : MVs Z I v0 u4 u5 u6 u7 lp n op C E lu) (hlp : lp ≤ 3) (hn : n ≤ 24) (hC : ∀ p f, 0 ≤ C p f ∧ C p f ≤ 297) (hE : ∀ p f, 0 ≤ E p f ∧ E p f ≤ 600) (hf : LFs lp n op E lf) (hf8 : ∀ q, q ≤ n → (I u8 q).toInt = lf q) (hf9 : ∀ q, lf q ≤ 2000000) (K P : Int) (eK' : (I v0 1).toInt = K) (eP : (I v0 2).toInt = P) (hK : 0 ≤ K ∧ K ≤ 999) (hP : 0 ≤ P ∧ P ≤ 999) (q : Nat) (hq1 : 1 ≤ q) (hqn : q < n) (e1v : v1.toInt = (q : Int)) (R : Nat → List Int) (hR : RRb I L b0 b1 b2 R) (hW : ∀ p, q < p → p ≤ n → EROW lp op C E P K lf n p (R p)) (hfl : (I u10 3).toInt ≤ 90000) {Q : jZ → jI → jL → Prop}
    (hQ : ∀ (Z' : jZ) (I' : jI) (L' : jL) (c0 : Nat) (X : List Int), WD Z' I' → BUD B Z' T → FR W7 Z I Z' I' → CP Z Z' → RO u10 Z I I' → (I' u10 3).toInt ≤ (I u10 3).toInt + 1000 → RCs Z' u10 c0 b1 b2 b4 b5 b6 b7 → RRb I' L' c0 b1 b2 (fun p => if p = q then X else R p) → EROW lp op C E P K lf n q X → (c0 = b0 ∨ c0 ∉ Z.1) → (∀ x, x ∈ Z.1 → x ≠ b0 → x ≠ b6 → x ≠ b7 → L' x = L x) → Q Z' I' L') : f_X6_lower B v0 v1 Z I L Q := by
  have z0 : (0 : Int32).toInt = 0 := rfl
  have ku : jk Z u10 7 := by obtain ⟨b9, e9, k9⟩ := sh_o w_I.1 kv0 (j := 10) (k := 7) rfl; cases h10.symm.trans e9; exact k9
  obtain ⟨x, ex, k8, -⟩ := sh_f w_I.1 kv0 (j := 8) (k := 14) (m := 25) rfl
  cases h8.symm.trans ex
  have lo : ∀ p, q < p → (fun p => if p = q then ([] : List Int) else R p) p = R p := fun p hp => if_neg (by omega)
  have qn : v1.toNatClampNeg = q := by have := i_nat e1v (by omega); omega
  unfold f_X6_lower
  intro b h; cases h10.symm.trans h
  refine r_X7_start w_I u10 v1 ku b0 b1 b2 b4 b5 b6 b7 hc q e1v (by omega) R hR (fun I2 w2 f2 p2 o2 a3 hR2 hS2 hcu2 => ?_)
  refine ⟨5, c_lower_L10 w_I v0 u10 v1 kv0 h10 ku b0 b1 b2 b4 b5 b6 b7 hc u4 u5 u6 u7 lp n op C E lu hM hlp hn hC hE q hq1 hqn e1v _ (fun p hp hpn => ?_) (fun f y ha hy => ?_) (fun I6 L7 S m w6 f6 ro6 a36 hR6 hMG6 hcu6 hsr hcn hs hB hL6 => ?_) 5 1 0 1 I2 L (fun _ => []) (Nat.le_refl _) (by omega) (by omega) rfl (Nat.le_refl _) SRe_0 w2 f2 o2 a3 hR2 hS2 hcu2 (fun _ _ _ => rfl)⟩
  · show srt ((fun p => if p = q then ([] : List Int) else R p) p)
    rw [lo p hp]
    exact EROW_srt (hW p hp hpn)
  · have hy : y ∈ (fun p => if p = q then ([] : List Int) else R p) (q + f) := hy
    have h1 := ha.1
    have h2 := ha.2.2.1
    rw [lo _ (by omega)] at hy
    exact EROW_rng hn h1 h2 hC hE hK.2 hf.2.2 (hW (q + f) (by omega) h2) y hy
  · unfold f_X6_lower_b72
    intro b h; cases h10.symm.trans h
    intro b h; cases h8.symm.trans h
    have e8 : (I6 u8 q).toInt = lf q := by rw [f6.2.2.2 v0 6 8 u8 kv0 h8 (by rw [k8.2]; rfl) rfl (by decide)]; exact hf8 q (by omega)
    rw [qn]
    refine ⟨vi_of e1v (by omega) (by omega), ?_⟩
    have ek : (I6 v0 1).toInt = K := by rw [f6.2.2.1 v0 6 1 kv0 (by decide) (by decide)]; exact eK'
    have ep : (I6 v0 2).toInt = P := by rw [f6.2.2.1 v0 6 2 kv0 (by decide) (by decide)]; exact eP
    have u0 := hf.2.2 q
    have u1 := hf9 q
    have tl := i_sub ek e8 (by omega) (by omega)
    refine r_X7_keepCheapest w6 bd u10 v1 _ _ ku b0 b1 b2 b4 b5 b6 b7 hc q (by omega) e1v (K - lf q) tl P ep R hR6 S m hMG6 hcu6 (by rw [a36]; omega) hs hB (fun Z' I' L' c0 w' bd' f' cp' ro' a3' hc' hR' hcu' hc0 hL' => ?_)
    have hlen := kc_len (P := P) (j := m - 1) (cnS S m) S (K - lf q)
    have hrow : EROW lp op C E P K lf n q (kc P (m - 1) (cnS S m) S (K - lf q)) := by
      have hup : ∀ p, q < p → p ≤ n → EWs lp op C E P (K - lf p) n p ((fun p => if p = q then ([] : List Int) else R p) p) := fun p hp hpn => by
        show EWs lp op C E P (K - lf p) n p (if p = q then ([] : List Int) else R p)
        rw [if_neg (by omega)]
        exact (hW p hp hpn).1
      have g := EW_step hC hE hf hK.2 hP.2 hqn hn hup hsr hs (fun i x hx => (hB i x hx).2)
      rw [hcn] at g
      have g2 := kc_srt (P := P) (j := m - 1) (cnS S m) S (K - lf q) (by omega) hs (fun i x hx => (hB i x hx).2)
      exact ⟨g, g2⟩
    exact hQ Z' I' L' c0 _ w' bd' (FR.trans w_I.1 w_I.2.1 f6 f') cp' (RO.trans jext_rfl ro6 ro') (by rw [a3']; rw [a36]; omega) hc' hR' hrow hc0 (fun x hx h0' h6 h7 => (hL' x hx h0' h7).trans (hL6 x h6 h7))
/-- least efforts from the ground, found up to place p -/
def LFT (I : jI) (u8 lp n : Nat) (op : Nat → Prop) (E : Nat → Nat → Int) (p : Nat) : Prop := ∀ q, q < p → q ≤ n → (0 ≤ (I u8 q).toInt ∧ (I u8 q).toInt ≤ 1048576) ∧ (q = 0 → (I u8 q).toInt = 0) ∧ ∀ far, alw lp op q far → (I u8 q).toInt ≤ E q far + (I u8 (q - far)).toInt
set_option maxHeartbeats 2000000 in
theorem c_lef_L13 {Z : jZ} {I : jI} {L : jL} (v0 u5 u6 u8 lp n : Nat) (g5 : jr Z v0 5 = some u5) (g6 : jr Z v0 6 = some u6) (g8 : jr Z v0 8 = some u8) (op : Nat → Prop) (E : Nat → Nat → Int) (hE : ∀ p f, 0 ≤ E p f ∧ E p f ≤ 600) (m3 : (I v0 3).toInt = (lp : Int)) (hlp : lp ≤ 3) (hn : n ≤ 24) (iop : ∀ p, p ≤ n → (I u6 p ≠ 0 ↔ op p)) (hm : ∀ p far, alw lp op p far → p ≤ n → (I u5 (3 * p + far - 1)).toInt = E p far) (q : Nat) (hq : q ≤ n) (v1 : Int32) (e1v : v1.toInt = (q : Int)) (hT : LFT I u8 lp n op E q) {Q : Int32 → jI → jL → Prop}
    (hQ : ∀ r : Int32, (0 ≤ r.toInt ∧ r.toInt ≤ 1048576) → (q = 0 → r.toInt = 0) → (∀ far, alw lp op q far → r.toInt ≤ E q far + (I u8 (q - far)).toInt) → Q r I L) :
    ∀ (k far : Nat) (v2 v3 : Int32), 1 ≤ far → far ≤ 4 → 5 ≤ k + far → v3.toInt = (far : Int) → (0 ≤ v2.toInt ∧ v2.toInt ≤ 1048576) → (q = 0 → v2.toInt = 0) → (∀ f, f < far → alw lp op q f → v2.toInt ≤ E q f + (I u8 (q - f)).toInt) → f_X6_leastEffortFrom_L13 Z Q k v0 v1 v2 v3 I L := by
  have z1 : (1 : Int32).toInt = 1 := rfl
  have z3 : (3 : Int32).toInt = 3 := rfl
  have n1 : v1.toNatClampNeg = q := by have := i_nat e1v (by omega); omega
  intro k
  induction k with
  | zero => intro far v2 v3 h1 h4 hk5; omega
  | succ k ih =>
    intro far v2 v3 h1 h4 hk5 e3v r2 h0 hl
    unfold f_X6_leastEffortFrom_L13
    refine ⟨fun c => hQ v2 r2 h0 (fun f ha => hl f ?_ ha), fun c => ⟨fun c2 => hQ v2 r2 h0 (fun f ha => hl f ?_ ha), fun c2 => ?_⟩⟩
    · have c := (i_lt m3 e3v).mp c
      have := ha.2.1
      omega
    · have c2 := (i_lt e1v e3v).mp c2
      have := ha.2.2.1
      omega
    have c := (not_congr (i_lt m3 e3v)).mp c
    have c2 := (not_congr (i_lt e1v e3v)).mp c2
    intro b h; cases g6.symm.trans h
    rw [n1]
    refine ⟨vi_of e1v (by omega) (by omega), fun c3 => hQ v2 r2 h0 (fun f ha => absurd c3 ((iop q hq).mpr ha.2.2.2)), fun c3 => ?_⟩
    have ha : alw lp op q far := ⟨h1, by omega, by omega, (iop q hq).mp c3⟩
    intro b h; cases g5.symm.trans h
    unfold f_X6_moveTo
    have t17 : (((v1 * (3 : Int32)) + v3) - (1 : Int32)).toInt = 3 * (q : Int) + (far : Int) - 1 := (i_sub (i_add (i_mul e1v z3 (by omega) (by omega)) e3v (by omega) (by omega)) z1 (by omega) (by omega)).trans (by omega)
    have n17 : (((v1 * (3 : Int32)) + v3) - (1 : Int32)).toNatClampNeg = 3 * q + far - 1 := by have := i_nat t17 (by omega); omega
    refine ⟨vi_of t17 (by omega) (by omega), ?_⟩
    intro b h; cases g8.symm.trans h
    have t13 := i_sub e1v e3v (by omega) (by omega)
    have n13 : (v1 - v3).toNatClampNeg = q - far := by have := i_nat t13 (by omega); omega
    refine ⟨vi_of t13 (by omega) (by omega), fun x21 e21 => ?_⟩
    rw [n17, n13] at e21
    have ee := hm q far ha hq
    have e9 := hE q far
    have tt := (hT (q - far) (by omega) (by omega)).1
    have ts : ((I u5 (3 * q + far - 1)) + (I u8 (q - far))).toInt = E q far + (I u8 (q - far)).toInt := i_add ee rfl (by omega) (by omega)
    have t21 : x21.toInt = min v2.toInt (E q far + (I u8 (q - far)).toInt) := by
      rw [e21]
      exact i_min rfl ts
    have hmin1 : x21.toInt ≤ v2.toInt := by rw [t21]; exact Int.min_le_left _ _
    have hmin2 : x21.toInt ≤ E q far + (I u8 (q - far)).toInt := by rw [t21]; exact Int.min_le_right _ _
    have hmin0 : 0 ≤ x21.toInt := by rw [t21]; exact Int.le_min.mpr ⟨r2.1, by omega⟩
    intro x ex
    refine ih (far + 1) x21 x (by omega) (by omega) (by omega) (by rw [ex]; exact (i_add e3v z1 (by omega) (by omega)).trans (by omega)) ⟨hmin0, by omega⟩ (fun hq0 => by omega) (fun f hf hb => ?_)
    by_cases c9 : f = far
    · rw [c9]; exact hmin2
    · exact Int.le_trans hmin1 (hl f (by omega) hb)
theorem r_X6_leastEffortFrom {Z : jZ} {I : jI} {L : jL} (v0 u5 u6 u8 lp n : Nat) (g5 : jr Z v0 5 = some u5) (g6 : jr Z v0 6 = some u6) (g8 : jr Z v0 8 = some u8) (op : Nat → Prop) (E : Nat → Nat → Int) (hE : ∀ p f, 0 ≤ E p f ∧ E p f ≤ 600) (m3 : (I v0 3).toInt = (lp : Int)) (hlp : lp ≤ 3) (hn : n ≤ 24) (iop : ∀ p, p ≤ n → (I u6 p ≠ 0 ↔ op p)) (hm : ∀ p far, alw lp op p far → p ≤ n → (I u5 (3 * p + far - 1)).toInt = E p far) (q : Nat) (hq : q ≤ n) (v1 : Int32) (e1v : v1.toInt = (q : Int)) (hT : LFT I u8 lp n op E q) {Q : Int32 → jI → jL → Prop}
    (hQ : ∀ r : Int32, (0 ≤ r.toInt ∧ r.toInt ≤ 1048576) → (q = 0 → r.toInt = 0) → (∀ far, alw lp op q far → r.toInt ≤ E q far + (I u8 (q - far)).toInt) → Q r I L) : f_X6_leastEffortFrom v0 v1 Z I L Q := by
  have z0 : (0 : Int32).toInt = 0 := rfl
  have zF : (1048576 : Int32).toInt = 1048576 := rfl
  have go : ∀ s0 : Int32, (0 ≤ s0.toInt ∧ s0.toInt ≤ 1048576) → (q = 0 → s0.toInt = 0) → f_X6_leastEffortFrom_b10 Z Q v0 v1 s0 I L := fun s0 h1 h2 => by
    unfold f_X6_leastEffortFrom_b10
    exact ⟨5, c_lef_L13 v0 u5 u6 u8 lp n g5 g6 g8 op E hE m3 hlp hn iop hm q hq v1 e1v hT hQ 5 1 s0 1 (Nat.le_refl _) (by omega) (by omega) rfl h1 h2 (fun f hf ha => by have := ha.1; omega)⟩
  unfold f_X6_leastEffortFrom
  refine ⟨fun c => ?_, fun c => ?_⟩
  · have c := (not_congr (i_eq e1v z0)).mp c
    exact go _ (by rw [zF]; omega) (fun a => by omega)
  · exact go _ (by rw [z0]; omega) (fun _ => rfl)
/-! ===== Routes: the survey ===== -/
theorem MVs_g {W : List (Nat × Nat)} {Z Z' : jZ} {I I' : jI} {a u4 u5 u6 u7 lp n : Nat} {op : Nat → Prop} {C E : Nat → Nat → Int} {lu : Nat → Int} (w : WD Z I) (ka : jk Z a 6) (f : FR W Z I Z' I') (n3 : (6, 3) ∉ W) (n4 : (6, 4) ∉ W) (n5 : (6, 5) ∉ W) (n6 : (6, 6) ∉ W) (n7 : (6, 7) ∉ W) (n15 : (6, 15) ∉ W) (h : MVs Z I a u4 u5 u6 u7 lp n op C E lu) : MVs Z' I' a u4 u5 u6 u7 lp n op C E lu := by
  obtain ⟨⟨h4, h5, h6, h7⟩, h3, h15, ho, hm, hu⟩ := h
  have i4 : I' u4 = I u4 := by
    obtain ⟨b, e, k, -⟩ := sh_f w.1 ka (j := 4) (k := 14) (m := 75) rfl
    cases h4.symm.trans e
    exact f.2.2.2 a 6 4 u4 ka h4 (by rw [k.2]; rfl) rfl n4
  have i5 : I' u5 = I u5 := by
    obtain ⟨b, e, k, -⟩ := sh_f w.1 ka (j := 5) (k := 14) (m := 75) rfl
    cases h5.symm.trans e
    exact f.2.2.2 a 6 5 u5 ka h5 (by rw [k.2]; rfl) rfl n5
  have i6 : I' u6 = I u6 := by
    obtain ⟨b, e, k, -⟩ := sh_f w.1 ka (j := 6) (k := 16) (m := 25) rfl
    cases h6.symm.trans e
    exact f.2.2.2 a 6 6 u6 ka h6 (by rw [k.2]; rfl) rfl n6
  have i7 : I' u7 = I u7 := by
    obtain ⟨b, e, k, -⟩ := sh_f w.1 ka (j := 7) (k := 14) (m := 25) rfl
    cases h7.symm.trans e
    exact f.2.2.2 a 6 7 u7 ka h7 (by rw [k.2]; rfl) rfl n7
  refine ⟨⟨(f.2.1 a 6 4 ka (by decide) (by decide)).trans h4, (f.2.1 a 6 5 ka (by decide) (by decide)).trans h5, (f.2.1 a 6 6 ka (by decide) (by decide)).trans h6, (f.2.1 a 6 7 ka (by decide) (by decide)).trans h7⟩, ?_, ?_, ?_, ?_, ?_⟩
  · rw [f.2.2.1 a 6 3 ka (by decide) n3]; exact h3
  · rw [f.2.2.1 a 6 15 ka (by decide) n15]; exact h15
  · rw [i6]; exact ho
  · rw [i4, i5]; exact hm
  · rw [i7]; exact hu
def Wsv : List (Nat × Nat) := [(6, 8), (7, 1), (7, 2), (7, 3), (7, 4), (7, 5), (7, 8), (7, 9)]
theorem W7_sv : ∀ p ∈ W7, p ∈ Wsv := by decide
/-- the cells of a Rows -/
def OWR (Z : jZ) (v : Nat) (x : Nat) : Prop := x = v ∨ ∃ j, j ∈ ([0, 1, 2, 4, 5, 6, 7] : List Nat) ∧ jr Z v j = some x
/-- the cells of some Rows and of some Routes -/
def OWN (Z : jZ) (U T : Nat → Prop) (x : Nat) : Prop := (∃ u, U u ∧ OWR Z u x) ∨ (∃ t, T t ∧ (x = t ∨ ∃ j, j ∈ ([4, 5, 6, 7, 8, 11, 12, 13] : List Nat) ∧ jr Z t j = some x))
theorem rk_7 {Z : jZ} {I : jI} {u j b : Nat} (w : WD Z I) (ku : jk Z u 7) (hj : j ∈ ([0, 1, 2, 4, 5, 6, 7] : List Nat)) (e : jr Z u j = some b) : 13 ≤ Z.2.1 b := by
  have hc : j = 0 ∨ j = 1 ∨ j = 2 ∨ j = 4 ∨ j = 5 ∨ j = 6 ∨ j = 7 := by simpa using hj
  have g : ∀ k o, jsh 7 j = some (k, o) → 13 ≤ k → 13 ≤ Z.2.1 b := fun k o hs hk => by
    obtain ⟨b', e', k', -⟩ := w.1.1 u 7 ku j k o hs
    cases e.symm.trans e'
    rw [k'.2]
    exact hk
  rcases hc with rfl | rfl | rfl | rfl | rfl | rfl | rfl
  · exact g 15 none rfl (by decide)
  · exact g 14 (some 25) rfl (by decide)
  · exact g 14 (some 25) rfl (by decide)
  · exact g 14 (some 3) rfl (by decide)
  · exact g 14 (some 3) rfl (by decide)
  · exact g 15 (some 3) rfl (by decide)
  · exact g 15 (some 3) rfl (by decide)
theorem rk_6 {Z : jZ} {I : jI} {u j b : Nat} (w : WD Z I) (ku : jk Z u 6) (hj : j ∈ ([4, 5, 6, 7, 8, 11, 12, 13] : List Nat)) (e : jr Z u j = some b) : 13 ≤ Z.2.1 b ∧ j ≠ 0 := by
  have hc : j = 4 ∨ j = 5 ∨ j = 6 ∨ j = 7 ∨ j = 8 ∨ j = 11 ∨ j = 12 ∨ j = 13 := by simpa using hj
  have g : ∀ k o, jsh 6 j = some (k, o) → 13 ≤ k → 13 ≤ Z.2.1 b := fun k o hs hk => by
    obtain ⟨b', e', k', -⟩ := w.1.1 u 6 ku j k o hs
    cases e.symm.trans e'
    rw [k'.2]
    exact hk
  rcases hc with rfl | rfl | rfl | rfl | rfl | rfl | rfl | rfl
  · exact ⟨g 14 (some 75) rfl (by decide), by decide⟩
  · exact ⟨g 14 (some 75) rfl (by decide), by decide⟩
  · exact ⟨g 16 (some 25) rfl (by decide), by decide⟩
  · exact ⟨g 14 (some 25) rfl (by decide), by decide⟩
  · exact ⟨g 14 (some 25) rfl (by decide), by decide⟩
  · exact ⟨g 15 (some 21) rfl (by decide), by decide⟩
  · exact ⟨g 14 (some 21) rfl (by decide), by decide⟩
  · exact ⟨g 14 (some 21) rfl (by decide), by decide⟩
theorem jsr6 {j : Nat} (h : j ≠ 0) : jsr 6 j = false := by simp [jsr, h]
/-- U: Rows; T: Routes -/
def UTk (Z : jZ) (U T : Nat → Prop) : Prop := (∀ u, U u → jk Z u 7) ∧ ∀ t, T t → jk Z t 6
theorem OWN_obj {Z : jZ} {I : jI} {U T : Nat → Prop} {b k : Nat} (w : WD Z I) (h : UTk Z U T) (kb : jk Z b k) (h13 : k < 13) (nU : ¬ U b) (nT : ¬ T b) : ¬ OWN Z U T b := fun q => by
  have e := kb.2
  rcases q with ⟨u, hu, g | ⟨j, hj, g⟩⟩ | ⟨t, ht, g | ⟨j, hj, g⟩⟩
  · rw [g] at nU; exact nU hu
  · have := rk_7 w (h.1 u hu) hj g
    omega
  · rw [g] at nT; exact nT ht
  · have := (rk_6 w (h.2 t ht) hj g).1
    omega
theorem OWN_arr {Z : jZ} {I : jI} {U T : Nat → Prop} {v c j b : Nat} (w : WD Z I) (h : UTk Z U T) (kv : jk Z v c) (e : jr Z v j = some b) (hs : jsr c j = false) (h13 : 13 ≤ Z.2.1 b) (nU : ¬ U v) (nT : ¬ T v) : ¬ OWN Z U T b := fun q => by
  rcases q with ⟨u, hu, g | ⟨j', hj, g⟩⟩ | ⟨t, ht, g | ⟨j', hj, g⟩⟩
  · have := (h.1 u hu).2
    rw [g] at h13
    omega
  · have := (w.2.1.2.2 v c j u 7 j' b kv (h.1 u hu) e g hs rfl).1
    rw [this] at nU
    exact nU hu
  · have := (h.2 t ht).2
    rw [g] at h13
    omega
  · have := (w.2.1.2.2 v c j t 6 j' b kv (h.2 t ht) e g hs (jsr6 (rk_6 w (h.2 t ht) hj g).2)).1
    rw [this] at nT
    exact nT ht
theorem OWN_in {Z : jZ} {I : jI} {U T : Nat → Prop} (w : WD Z I) (h : UTk Z U T) : ∀ x, OWN Z U T x → x ∈ Z.1 := fun x q => by
  rcases q with ⟨u, hu, g | ⟨j, hj, g⟩⟩ | ⟨t, ht, g | ⟨j, hj, g⟩⟩
  · rw [g]; exact (h.1 u hu).1
  · exact w.2.1.2.1 u 7 j x (h.1 u hu) g
  · rw [g]; exact (h.2 t ht).1
  · exact w.2.1.2.1 t 6 j x (h.2 t ht) g
theorem dn_own7 {Z : jZ} {I : jI} {U T : Nat → Prop} {v : Nat} (w : WD Z I) (h : UTk Z U T) (kv : jk Z v 7) (nU : ¬ U v) : DN7 (OWN Z U T) Z v := by
  have nT : ¬ T v := fun q => by
    have := (h.2 v q).2
    have := kv.2
    omega
  exact ⟨kv, OWN_obj w h kv (by decide) nU nT, fun j b hj e => OWN_arr w h kv e rfl (rk_7 w kv hj e) nU nT⟩
theorem nUT {Z : jZ} {U T : Nat → Prop} {v c : Nat} (h : UTk Z U T) (kv : jk Z v c) (h6 : c ≠ 6) (h7 : c ≠ 7) : ¬ U v ∧ ¬ T v := by
  have := kv.2
  refine ⟨fun q => ?_, fun q => ?_⟩
  · have := (h.1 v q).2
    omega
  · have := (h.2 v q).2
    omega
theorem dn_own3 {Z : jZ} {I : jI} {U T : Nat → Prop} {v : Nat} (w : WD Z I) (h : UTk Z U T) (kv : jk Z v 3) : DN3 (OWN Z U T) Z v := by
  obtain ⟨nU, nT⟩ := nUT h kv (by decide) (by decide)
  refine ⟨kv, OWN_obj w h kv (by decide) nU nT, fun j b hj e => OWN_arr w h kv e rfl ?_ nU nT⟩
  have hc : j = 0 ∨ j = 1 ∨ j = 2 := by simpa using hj
  rcases hc with rfl | rfl | rfl
  · obtain ⟨b', e', k', -⟩ := sh_f w.1 kv (j := 0) (k := 14) (m := 40) rfl
    cases e.symm.trans e'; rw [k'.2]; decide
  · obtain ⟨b', e', k', -⟩ := sh_f w.1 kv (j := 1) (k := 14) (m := 40) rfl
    cases e.symm.trans e'; rw [k'.2]; decide
  · obtain ⟨b', e', k', -⟩ := sh_f w.1 kv (j := 2) (k := 14) (m := 41) rfl
    cases e.symm.trans e'; rw [k'.2]; decide
theorem dn_own4 {Z : jZ} {I : jI} {U T : Nat → Prop} {v : Nat} (w : WD Z I) (h : UTk Z U T) (kv : jk Z v 4) : DN4 (OWN Z U T) Z v := by
  obtain ⟨nU, nT⟩ := nUT h kv (by decide) (by decide)
  refine ⟨kv, OWN_obj w h kv (by decide) nU nT, fun j b hj e => OWN_arr w h kv e rfl ?_ nU nT⟩
  have hc : j = 0 ∨ j = 1 ∨ j = 2 := by simpa using hj
  rcases hc with rfl | rfl | rfl
  · obtain ⟨b', e', k', -⟩ := sh_f w.1 kv (j := 0) (k := 14) (m := 192) rfl
    cases e.symm.trans e'; rw [k'.2]; decide
  · obtain ⟨b', e', k', -⟩ := sh_f w.1 kv (j := 1) (k := 14) (m := 24) rfl
    cases e.symm.trans e'; rw [k'.2]; decide
  · obtain ⟨b', e', k', -⟩ := sh_f w.1 kv (j := 2) (k := 14) (m := 1536) rfl
    cases e.symm.trans e'; rw [k'.2]; decide
theorem dn_own8 {Z : jZ} {I : jI} {U T : Nat → Prop} {v : Nat} (w : WD Z I) (h : UTk Z U T) (kv : jk Z v 8) : DN8 (OWN Z U T) Z v := by
  obtain ⟨nU, nT⟩ := nUT h kv (by decide) (by decide)
  refine ⟨kv, OWN_obj w h kv (by decide) nU nT, fun j b hj e => OWN_arr w h kv e rfl ?_ nU nT, fun b e => ?_, fun j b hj e => ?_⟩
  · have hc : j = 0 ∨ j = 1 ∨ j = 2 ∨ j = 3 ∨ j = 5 ∨ j = 8 := by simpa using hj
    have g : ∀ k o, jsh 8 j = some (k, o) → 13 ≤ k → 13 ≤ Z.2.1 b := fun k o hs hk => by
      obtain ⟨b', e', k', -⟩ := w.1.1 v 8 kv j k o hs
      cases e.symm.trans e'
      rw [k'.2]
      exact hk
    rcases hc with rfl | rfl | rfl | rfl | rfl | rfl
    · exact g 14 (some 24) rfl (by decide)
    · exact g 14 (some 24) rfl (by decide)
    · exact g 14 (some 24) rfl (by decide)
    · exact g 14 (some 24) rfl (by decide)
    · exact g 14 (some 8) rfl (by decide)
    · exact g 14 (some 7) rfl (by decide)
  · obtain ⟨b', e', k'⟩ := sh_o w.1 kv (j := 4) (k := 4) rfl
    cases e.symm.trans e'
    exact dn_own4 w h k'
  · have hc : j = 6 ∨ j = 7 := by simpa using hj
    rcases hc with rfl | rfl
    · obtain ⟨b', e', k'⟩ := sh_o w.1 kv (j := 6) (k := 3) rfl
      cases e.symm.trans e'
      exact dn_own3 w h k'
    · obtain ⟨b', e', k'⟩ := sh_o w.1 kv (j := 7) (k := 3) rfl
      cases e.symm.trans e'
      exact dn_own3 w h k'
theorem dn_own6a {Z : jZ} {I : jI} {U T : Nat → Prop} {v : Nat} (w : WD Z I) (h : UTk Z U T) (kv : jk Z v 6) (nT : ¬ T v) : jk Z v 6 ∧ ¬ OWN Z U T v ∧ (∀ j b, j ∈ ([4, 5, 6, 7, 8, 11, 12, 13] : List Nat) → jr Z v j = some b → ¬ OWN Z U T b) ∧ (∀ b, jr Z v 0 = some b → DN8 (OWN Z U T) Z b) := by
  have nU : ¬ U v := fun q => by
    have := (h.1 v q).2
    have := kv.2
    omega
  refine ⟨kv, OWN_obj w h kv (by decide) nU nT, fun j b hj e => ?_, fun b e => ?_⟩
  · obtain ⟨r1, r2⟩ := rk_6 w kv hj e
    exact OWN_arr w h kv e (jsr6 r2) r1 nU nT
  · obtain ⟨b', e', k'⟩ := sh_o w.1 kv (j := 0) (k := 8) rfl
    cases e.symm.trans e'
    exact dn_own8 w h k'
theorem dn_own9 {Z : jZ} {I : jI} {U T : Nat → Prop} {v u : Nat} (w : WD Z I) (h : UTk Z U T) (kv : jk Z v 6) (nT : ¬ T v) (e9 : jr Z v 9 = some u) (n9 : ¬ U u) : DN9 (OWN Z U T) Z v := by
  obtain ⟨a, b, c, d⟩ := dn_own6a w h kv nT
  refine ⟨a, b, c, d, fun x ex => ?_⟩
  cases e9.symm.trans ex
  obtain ⟨b', e', k'⟩ := sh_o w.1 kv (j := 9) (k := 7) rfl
  cases e9.symm.trans e'
  exact dn_own7 w h k' n9
theorem dn_own10 {Z : jZ} {I : jI} {U T : Nat → Prop} {v u : Nat} (w : WD Z I) (h : UTk Z U T) (kv : jk Z v 6) (nT : ¬ T v) (e9 : jr Z v 10 = some u) (n9 : ¬ U u) : DN10 (OWN Z U T) Z v := by
  obtain ⟨a, b, c, d⟩ := dn_own6a w h kv nT
  refine ⟨a, b, c, d, fun x ex => ?_⟩
  cases e9.symm.trans ex
  obtain ⟨b', e', k'⟩ := sh_o w.1 kv (j := 10) (k := 7) rfl
  cases e9.symm.trans e'
  exact dn_own7 w h k' n9
theorem dn_own6 {Z : jZ} {I : jI} {U T : Nat → Prop} {v u u' : Nat} (w : WD Z I) (h : UTk Z U T) (kv : jk Z v 6) (nT : ¬ T v) (e9 : jr Z v 9 = some u) (n9 : ¬ U u) (e10 : jr Z v 10 = some u') (n10 : ¬ U u') : DN6 (OWN Z U T) Z v := by
  obtain ⟨a, b, c, d⟩ := dn_own6a w h kv nT
  have g9 := (dn_own9 w h kv nT e9 n9).2.2.2.2
  have g10 := (dn_own10 w h kv nT e10 n10).2.2.2.2
  refine ⟨a, b, c, d, fun j x hj ex => ?_⟩
  have hc : j = 9 ∨ j = 10 := by simpa using hj
  rcases hc with rfl | rfl
  · exact g9 x ex
  · exact g10 x ex
theorem UT1 {Z : jZ} {u : Nat} (ku : jk Z u 7) : UTk Z (fun x => x = u) (fun _ => False) := ⟨fun x e => by rw [e]; exact ku, fun _ h => h.elim⟩
theorem OWN_1 {Z : jZ} {u x : Nat} (h : OWR Z u x) : OWN Z (fun x => x = u) (fun _ => False) x := Or.inl ⟨u, rfl, h⟩
/-- the rows of one stay while another's are worked on -/
theorem RR_kp {P : Nat → Prop} {Z Z' : jZ} {I I' : jI} {L L' : jL} {v b0 b1 b2 b4 b5 b6 b7 : Nat} {R : Nat → List Int} (kp : KP P Z I L Z' I' L') (ho : ∀ x, OWR Z v x → P x) (hc : RCs Z v b0 b1 b2 b4 b5 b6 b7) (hR : RRb I L b0 b1 b2 R) : RCs Z' v b0 b1 b2 b4 b5 b6 b7 ∧ RRb I' L' b0 b1 b2 R ∧ I' v = I v := by
  obtain ⟨g0, g1, g2, g4, g5, g6, g7⟩ := hc
  have k := kp.2.2.1
  have kv := k v (ho v (Or.inl rfl))
  have k0 := k b0 (ho b0 (Or.inr ⟨0, by decide, g0⟩))
  have k1 := k b1 (ho b1 (Or.inr ⟨1, by decide, g1⟩))
  have k2 := k b2 (ho b2 (Or.inr ⟨2, by decide, g2⟩))
  refine ⟨⟨(kv.2.2 0).trans g0, (kv.2.2 1).trans g1, (kv.2.2 2).trans g2, (kv.2.2 4).trans g4, (kv.2.2 5).trans g5, (kv.2.2 6).trans g6, (kv.2.2 7).trans g7⟩, fun p hp => ?_, kv.1⟩
  rw [k1.1, k2.1, k0.2.1]
  exact hR p hp
set_option maxHeartbeats 4000000 in
theorem sv_L48 {B : Nat × Nat} {T : Nat} {Z : jZ} {I : jI} (w_I : WD Z I) (v0 : Nat) (kv0 : jk Z v0 6) (u9 u10 u8 : Nat) (h9 : jr Z v0 9 = some u9) (h10 : jr Z v0 10 = some u10) (h8 : jr Z v0 8 = some u8) (b0 b1 b2 b4 b5 b6 b7 : Nat) (hcb : RCs Z u9 b0 b1 b2 b4 b5 b6 b7) (d1 d2 d4 d5 d6 d7 : Nat) (u4 u5 u6 u7 lp n : Nat) (op : Nat → Prop) (C E : Nat → Nat → Int) (lu lf : Nat → Int) (hM : MVs Z I v0 u4 u5 u6 u7 lp n op C E lu) (hlp : lp ≤ 3) (hn : n ≤ 24) (hC : ∀ p f, 0 ≤ C p f ∧ C p f ≤ 297) (hE : ∀ p f, 0 ≤ E p f ∧ E p f ≤ 600) (hf : LFs lp n op E lf) (hf8 : ∀ q, q ≤ n → (I u8 q).toInt = lf q) (hf9 : ∀ q, lf q ≤ 2000000) (K P : Int) (eK' : (I v0 1).toInt = K) (eP : (I v0 2).toInt = P) (hK : 0 ≤ K ∧ K ≤ 999) (hP : 0 ≤ P ∧ P ≤ 999) {Q : jZ → jI → jL → Prop}
    (hQ : ∀ (Z' : jZ) (I' : jI) (L' : jL) (c0 d0 : Nat) (R2 : Nat → List Int), WD Z' I' → BUD B Z' T → FR W7 Z I Z' I' → CP Z Z' → RCs Z' u9 c0 b1 b2 b4 b5 b6 b7 → RRb I' L' c0 b1 b2 (fun p => if p = 0 then [16777215] else []) → (I' u9 3).toInt = 1 → RCs Z' u10 d0 d1 d2 d4 d5 d6 d7 → RRb I' L' d0 d1 d2 R2 → (∀ p, 1 ≤ p → p ≤ n → EROW lp op C E P K lf n p (R2 p)) → Q Z' I' L') :
    ∀ (k q : Nat) (v1 : Int32) (Z1 : jZ) (I1 : jI) (L1 : jL) (d0 : Nat) (R : Nat → List Int), q + 1 ≤ k → q ≤ n → v1.toInt = (q : Int) - 1 → WD Z1 I1 → BUD B Z1 T → FR W7 Z I Z1 I1 → CP Z Z1 → RCs Z1 u9 b0 b1 b2 b4 b5 b6 b7 → (I1 u10 3).toInt ≤ 1 + 1000 * ((n : Int) - (q : Int)) → RCs Z1 u10 d0 d1 d2 d4 d5 d6 d7 → RRb I1 L1 d0 d1 d2 R → (∀ p, q ≤ p → 1 ≤ p → p ≤ n → EROW lp op C E P K lf n p (R p)) → f_X6_survey_L48 B Q k v0 v1 Z1 I1 L1 := by
  have z0 : (0 : Int32).toInt = 0 := rfl
  have zm : (-1 : Int32).toInt = -1 := by decide
  obtain ⟨x, ex, ku9⟩ := sh_o w_I.1 kv0 (j := 9) (k := 7) rfl
  cases h9.symm.trans ex
  obtain ⟨x, ex, ku10⟩ := sh_o w_I.1 kv0 (j := 10) (k := 7) rfl
  cases h10.symm.trans ex
  obtain ⟨x, ex, k8, -⟩ := sh_f w_I.1 kv0 (j := 8) (k := 14) (m := 25) rfl
  cases h8.symm.trans ex
  have n910 : u9 ≠ u10 := ds_ne w_I.2.1 kv0 h9 h10 rfl rfl (by decide)
  intro k
  induction k with
  | zero => intro q v1 Z1 I1 L1 d0 R hk; omega
  | succ k ih =>
    intro q v1 Z1 I1 L1 d0 R hk hqn e1v w bd f cp hcb1 hfl hc hR hW
    have kv1 : jk Z1 v0 6 := (f.1 v0 6 kv0).1
    have kw9 : jk Z1 u9 7 := (f.1 u9 7 ku9).1
    have kw10 : jk Z1 u10 7 := (f.1 u10 7 ku10).1
    have g9 := (f.2.1 v0 6 9 kv0 (by decide) (by decide)).trans h9
    have g10 := (f.2.1 v0 6 10 kv0 (by decide) (by decide)).trans h10
    have g8 := (f.2.1 v0 6 8 kv0 (by decide) (by decide)).trans h8
    have hM1 := MVs_fr w_I kv0 f hM
    have a8 : I1 u8 = I u8 := f.2.2.2 v0 6 8 u8 kv0 h8 (by rw [k8.2]; rfl) rfl (by decide)
    unfold f_X6_survey_L48
    refine ⟨fun c => ?_, fun c => ?_⟩
    · have c := (i_le e1v z0).mp c
      intro b h; cases g9.symm.trans h
      have dn := dn_own7 w (UT1 kw10) kw9 n910
      refine loc_X7_begin dn (KP.rf (OWN_in w (UT1 kw10))) (r_X7_begin w bd u9 0 16777215 kw9 b0 b1 b2 b4 b5 b6 b7 hcb1 0 (by omega) rfl 16777215 rfl (Q := fun Z' I' L' => ∃ c0, WD Z' I' ∧ BUD B Z' T ∧ FR W7 Z1 I1 Z' I' ∧ CP Z1 Z' ∧ (I' u9 3).toInt = 1 ∧ RCs Z' u9 c0 b1 b2 b4 b5 b6 b7 ∧ RRb I' L' c0 b1 b2 (fun q => if q = 0 then [16777215] else [])) (fun Z' I' L' c0 w' bd' f' cp' _ a3' hc' hR' _ _ => ⟨c0, w', bd', f', cp', a3', hc', hR'⟩)) (fun Z' I' L' kp hq => ?_)
      obtain ⟨c0, w', bd', f', cp', a3', hc', hR'⟩ := hq
      obtain ⟨hc2, hR2, -⟩ := RR_kp kp (fun x hx => OWN_1 hx) hc hR
      exact hQ Z' I' L' c0 d0 R w' bd' (FR.trans w_I.1 w_I.2.1 f f') (CP.trans f.1 cp cp') hc' hR' a3' hc2 hR2 (fun p p1 p2 => hW p (by omega) p1 p2)
    · have c := (not_congr (i_le e1v z0)).mp c
      have dn := dn_own10 w (UT1 kw9) kv1 (fun h => h) g10 (fun e => n910 e.symm)
      refine loc10_X6_lower dn (KP.rf (OWN_in w (UT1 kw9))) (r_X6_lower w bd v0 v1 kv1 u10 u8 g10 g8 d0 d1 d2 d4 d5 d6 d7 hc u4 u5 u6 u7 lp n op C E lu lf hM1 hlp hn hC hE hf (fun q hq => by rw [a8]; exact hf8 q hq) hf9 K P (by rw [f.2.2.1 v0 6 1 kv0 (by decide) (by decide)]; exact eK') (by rw [f.2.2.1 v0 6 2 kv0 (by decide) (by decide)]; exact eP) hK hP (q - 1) (by omega) (by omega) (by omega) R hR (fun p p1 p2 => hW p (by omega) (by omega) p2) (by omega) (Q := fun Z' I' L' => ∃ c0 X, WD Z' I' ∧ BUD B Z' T ∧ FR W7 Z1 I1 Z' I' ∧ CP Z1 Z' ∧ (I' u10 3).toInt ≤ (I1 u10 3).toInt + 1000 ∧ RCs Z' u10 c0 d1 d2 d4 d5 d6 d7 ∧ RRb I' L' c0 d1 d2 (fun p => if p = q - 1 then X else R p) ∧ EROW lp op C E P K lf n (q - 1) X) (fun Z' I' L' c0 X w' bd' f' cp' _ a3' hc' hR' hX' _ _ => ⟨c0, X, w', bd', f', cp', a3', hc', hR', hX'⟩)) (fun Z' I' L' kp hq x17 e17 => ?_)
      obtain ⟨c0, X, w', bd', f', cp', a3', hc', hR', hX'⟩ := hq
      have kb := kp.2.2.1
      have hcb' : RCs Z' u9 b0 b1 b2 b4 b5 b6 b7 := by
        obtain ⟨q0, q1, q2, q4, q5, q6, q7⟩ := hcb1
        have e := (kb u9 (OWN_1 (Or.inl rfl))).2.2
        exact ⟨(e 0).trans q0, (e 1).trans q1, (e 2).trans q2, (e 4).trans q4, (e 5).trans q5, (e 6).trans q6, (e 7).trans q7⟩
      refine ih (q - 1) x17 Z' I' L' c0 _ (by omega) (by omega) (by rw [e17]; exact (i_add e1v zm (by omega) (by omega)).trans (by omega)) w' bd' (FR.trans w_I.1 w_I.2.1 f f') (CP.trans f.1 cp cp') hcb' (by omega) hc' hR' (fun p p1 p2 p3 => ?_)
      show EROW lp op C E P K lf n p (if p = q - 1 then X else R p)
      by_cases ep : p = q - 1
      · rw [if_pos ep, ep]
        exact hX'
      · rw [if_neg ep]
        exact hW p (by omega) p2 p3
set_option maxHeartbeats 4000000 in
theorem sv_L2 {B : Nat × Nat} {T : Nat} {Z : jZ} {I : jI} {L : jL} (w_I : WD Z I) (bd : BUD B Z T) (v0 : Nat) (kv0 : jk Z v0 6) (u9 u10 u8 : Nat) (h9 : jr Z v0 9 = some u9) (h10 : jr Z v0 10 = some u10) (h8 : jr Z v0 8 = some u8) (b0 b1 b2 b4 b5 b6 b7 : Nat) (hcb : RCs Z u9 b0 b1 b2 b4 b5 b6 b7) (d0 d1 d2 d4 d5 d6 d7 : Nat) (hcd : RCs Z u10 d0 d1 d2 d4 d5 d6 d7) (u4 u5 u6 u7 lp n : Nat) (op : Nat → Prop) (C E : Nat → Nat → Int) (lu : Nat → Int) (hM : MVs Z I v0 u4 u5 u6 u7 lp n op C E lu) (hlp : lp ≤ 3) (hn : n ≤ 24) (hC : ∀ p f, 0 ≤ C p f ∧ C p f ≤ 297) (hE : ∀ p f, 0 ≤ E p f ∧ E p f ≤ 600) (K P : Int) (eK' : (I v0 1).toInt = K) (eP : (I v0 2).toInt = P) (hK : 0 ≤ K ∧ K ≤ 999) (hP : 0 ≤ P ∧ P ≤ 999) {Q : jZ → jI → jL → Prop}
    (hQ : ∀ (Z' : jZ) (I' : jI) (L' : jL) (c0 e0 : Nat) (R2 : Nat → List Int) (lf : Nat → Int), WD Z' I' → BUD B Z' T → FR Wsv Z I Z' I' → CP Z Z' → LFs lp n op E lf → RCs Z' u9 c0 b1 b2 b4 b5 b6 b7 → RRb I' L' c0 b1 b2 (fun p => if p = 0 then [16777215] else []) → (I' u9 3).toInt = 1 → RCs Z' u10 e0 d1 d2 d4 d5 d6 d7 → RRb I' L' e0 d1 d2 R2 → (∀ p, 1 ≤ p → p ≤ n → EROW lp op C E P K lf n p (R2 p)) → Q Z' I' L') :
    ∀ (k p : Nat) (v1 : Int32) (I1 : jI), n + 2 ≤ k + p → p ≤ n + 1 → v1.toInt = (p : Int) → WD Z I1 → FR Wsv Z I Z I1 → (∀ x, x ≠ u8 → I1 x = I x) → LFT I1 u8 lp n op E p → f_X6_survey_L2 B Q k v0 v1 Z I1 L := by
  have z0 : (0 : Int32).toInt = 0 := rfl
  have z1 : (1 : Int32).toInt = 1 := rfl
  obtain ⟨x, ex, ku9⟩ := sh_o w_I.1 kv0 (j := 9) (k := 7) rfl
  cases h9.symm.trans ex
  obtain ⟨x, ex, ku10⟩ := sh_o w_I.1 kv0 (j := 10) (k := 7) rfl
  cases h10.symm.trans ex
  obtain ⟨x, ex, k8, l8⟩ := sh_f w_I.1 kv0 (j := 8) (k := 14) (m := 25) rfl
  cases h8.symm.trans ex
  have n910 : u10 ≠ u9 := ds_ne w_I.2.1 kv0 h10 h9 rfl rfl (by decide)
  have nv8 : v0 ≠ u8 := ks_ne kv0 k8 (by decide)
  intro k
  induction k with
  | zero => intro p v1 I1 h1 h2; omega
  | succ k ih =>
    intro p v1 I1 h1 h2 e1v w f hx hT
    have hM1 : MVs Z I1 v0 u4 u5 u6 u7 lp n op C E lu := MVs_g w_I kv0 f (by decide) (by decide) (by decide) (by decide) (by decide) (by decide) hM
    have hMM := hM1
    obtain ⟨⟨g4, g5, g6, g7⟩, m3, m15, mo, mm, mu⟩ := hM1
    unfold f_X6_survey_L2
    refine ⟨fun c => ?_, fun c => ?_⟩
    · have c := (i_lt m15 e1v).mp c
      have ep : p = n + 1 := by omega
      rw [ep] at hT
      intro b h; cases h10.symm.trans h
      have dn := dn_own7 w (UT1 ku9) ku10 n910
      refine loc_X7_begin dn (KP.rf (OWN_in w (UT1 ku9))) (r_X7_begin w bd u10 (I1 v0 15) 16777215 ku10 d0 d1 d2 d4 d5 d6 d7 hcd n (by omega) m15 16777215 rfl (Q := fun Z' I' L' => ∃ c0, WD Z' I' ∧ BUD B Z' T ∧ FR W7 Z I1 Z' I' ∧ CP Z Z' ∧ (I' u10 3).toInt = 1 ∧ RCs Z' u10 c0 d1 d2 d4 d5 d6 d7 ∧ RRb I' L' c0 d1 d2 (fun q => if q = n then [16777215] else [])) (fun Z' I' L' c0 w' bd' f' cp' _ a3' hc' hR' _ _ => ⟨c0, w', bd', f', cp', a3', hc', hR'⟩)) (fun Z' I' L' kp hq x27 e27 => ?_)
      obtain ⟨c0, w', bd', f', cp', a3', hc', hR'⟩ := hq
      have kb := kp.2.2.1
      have hcb' : RCs Z' u9 b0 b1 b2 b4 b5 b6 b7 := by
        obtain ⟨q0, q1, q2, q4, q5, q6, q7⟩ := hcb
        have e := (kb u9 (OWN_1 (Or.inl rfl))).2.2
        exact ⟨(e 0).trans q0, (e 1).trans q1, (e 2).trans q2, (e 4).trans q4, (e 5).trans q5, (e 6).trans q6, (e 7).trans q7⟩
      have kv' := (f'.1 v0 6 kv0).1
      have a8' : I' u8 = I1 u8 := f'.2.2.2 v0 6 8 u8 kv0 h8 (by rw [k8.2]; rfl) rfl (by decide)
      have i15 : (I' v0 15).toInt = (n : Int) := by rw [f'.2.2.1 v0 6 15 kv0 (by decide) (by decide)]; exact m15
      have hf : LFs lp n op E (fun q => if q ≤ n then (I1 u8 q).toInt else 0) := by
        refine ⟨fun q far ha hq => ?_, ?_, fun q => ?_⟩
        · show (if q ≤ n then (I1 u8 q).toInt else 0) ≤ E q far + (if q - far ≤ n then (I1 u8 (q - far)).toInt else 0)
          rw [if_pos hq, if_pos (by omega)]
          exact (hT q (by omega) hq).2.2 far ha
        · show (if 0 ≤ n then (I1 u8 0).toInt else 0) = 0
          rw [if_pos (Nat.zero_le _)]
          exact (hT 0 (by omega) (Nat.zero_le _)).2.1 rfl
        · show 0 ≤ (if q ≤ n then (I1 u8 q).toInt else 0)
          by_cases cq : q ≤ n
          · rw [if_pos cq]
            exact (hT q (by omega) cq).1.1
          · rw [if_neg cq]
            exact Int.le_refl _
      have hf9 : ∀ q, (fun q => if q ≤ n then (I1 u8 q).toInt else 0) q ≤ 2000000 := fun q => by
        show (if q ≤ n then (I1 u8 q).toInt else 0) ≤ 2000000
        by_cases cq : q ≤ n
        · rw [if_pos cq]
          have := (hT q (by omega) cq).1.2
          omega
        · rw [if_neg cq]
          omega
      refine ⟨n + 1, sv_L48 w' v0 kv' u9 u10 u8 ((f'.2.1 v0 6 9 kv0 (by decide) (by decide)).trans h9) ((f'.2.1 v0 6 10 kv0 (by decide) (by decide)).trans h10) ((f'.2.1 v0 6 8 kv0 (by decide) (by decide)).trans h8) b0 b1 b2 b4 b5 b6 b7 hcb' d1 d2 d4 d5 d6 d7 u4 u5 u6 u7 lp n op C E lu _ (MVs_fr w kv0 f' hMM) hlp hn hC hE hf (fun q hq => by rw [a8']; exact (if_pos hq).symm) hf9 K P ?_ ?_ hK hP (fun Z2 I2 L2 c9 e9 R2 w2 bd2 f2 cp2 hc9 hR9 a39 hc10 hR10 hW2 => hQ Z2 I2 L2 c9 e9 R2 _ w2 bd2 (f.trans w_I.1 w_I.2.1 ((f'.trans w.1 w.2.1 f2).mono W7_sv)) (CP.trans f'.1 cp' cp2) hf hc9 hR9 a39 hc10 hR10 hW2) (n + 1) n x27 Z' I' L' c0 _ (Nat.le_refl _) (Nat.le_refl _) ?_ w' bd' FR.rf CP.rf hcb' (by omega) hc' hR' (fun q q1 q2 q3 => ?_)⟩
      · rw [f'.2.2.1 v0 6 1 kv0 (by decide) (by decide), hx v0 nv8]; exact eK'
      · rw [f'.2.2.1 v0 6 2 kv0 (by decide) (by decide), hx v0 nv8]; exact eP
      · rw [e27]
        exact i_sub i15 z1 (by omega) (by omega)
      · have eq : q = n := by omega
        rw [eq]
        show EROW lp op C E P K _ n n (if n = n then [16777215] else [])
        rw [if_pos rfl]
        exact ⟨EW_top hP.1, List.pairwise_singleton _ _⟩
    · have c := (not_congr (i_lt m15 e1v)).mp c
      have n1 : v1.toNatClampNeg = p := by have := i_nat e1v (by omega); omega
      intro b h; cases h8.symm.trans h
      refine r_X6_leastEffortFrom v0 u5 u6 u8 lp n g5 g6 h8 op E hE m3 hlp hn mo (fun q far ha hq => (mm q far ha hq).2) p (by omega) v1 e1v hT (fun r r1 r2 r3 => ?_)
      refine ⟨vi_of e1v (by omega) (by omega), fun I38 e38 x39 e39 => ?_⟩
      rw [n1] at e38
      refine ih (p + 1) x39 I38 (by omega) (by omega) (by rw [e39]; exact (i_add e1v z1 (by omega) (by omega)).trans (by omega)) ?_ ?_ (fun x hx' => by rw [e38, jpI_ne hx']; exact hx x hx') (fun q hq hqn => ?_)
      · rw [e38]
        exact WD_putA w 6 8 kv0 h8 k8 rfl rfl (by decide) trivial
      · refine f.trans w_I.1 w_I.2.1 ?_
        rw [e38]
        exact FR_putA w.2.1 kv0 h8 k8 rfl rfl (by decide)
      · have off : ∀ j, j ≠ p → I38 u8 j = I1 u8 j := fun j hj => by rw [e38, jpI_off hj]
        by_cases c9 : q = p
        · subst c9
          have at_ : I38 u8 q = r := by rw [e38, jpI_at]
          rw [at_]
          refine ⟨r1, r2, fun far ha => ?_⟩
          have := ha.1
          have := ha.2.2.1
          rw [off _ (by omega)]
          exact r3 far ha
        · rw [off _ c9]
          have old := hT q (by omega) hqn
          refine ⟨old.1, old.2.1, fun far ha => ?_⟩
          have := ha.1
          have := ha.2.2.1
          rw [off _ (by omega)]
          exact old.2.2 far ha
theorem r_X6_survey {B : Nat × Nat} {T : Nat} {Z : jZ} {I : jI} {L : jL} (w_I : WD Z I) (bd : BUD B Z T) (v0 : Nat) (kv0 : jk Z v0 6) (u9 u10 : Nat) (h9 : jr Z v0 9 = some u9) (h10 : jr Z v0 10 = some u10) (b0 b1 b2 b4 b5 b6 b7 : Nat) (hcb : RCs Z u9 b0 b1 b2 b4 b5 b6 b7) (d0 d1 d2 d4 d5 d6 d7 : Nat) (hcd : RCs Z u10 d0 d1 d2 d4 d5 d6 d7) (u4 u5 u6 u7 lp n : Nat) (op : Nat → Prop) (C E : Nat → Nat → Int) (lu : Nat → Int) (hM : MVs Z I v0 u4 u5 u6 u7 lp n op C E lu) (hlp : lp ≤ 3) (hn : n ≤ 24) (hC : ∀ p f, 0 ≤ C p f ∧ C p f ≤ 297) (hE : ∀ p f, 0 ≤ E p f ∧ E p f ≤ 600) (K P : Int) (eK' : (I v0 1).toInt = K) (eP : (I v0 2).toInt = P) (hK : 0 ≤ K ∧ K ≤ 999) (hP : 0 ≤ P ∧ P ≤ 999) {Q : jZ → jI → jL → Prop}
    (hQ : ∀ (Z' : jZ) (I' : jI) (L' : jL) (c0 e0 : Nat) (R2 : Nat → List Int) (lf : Nat → Int), WD Z' I' → BUD B Z' T → FR Wsv Z I Z' I' → CP Z Z' → LFs lp n op E lf → RCs Z' u9 c0 b1 b2 b4 b5 b6 b7 → RRb I' L' c0 b1 b2 (fun p => if p = 0 then [16777215] else []) → (I' u9 3).toInt = 1 → RCs Z' u10 e0 d1 d2 d4 d5 d6 d7 → RRb I' L' e0 d1 d2 R2 → (∀ p, 1 ≤ p → p ≤ n → EROW lp op C E P K lf n p (R2 p)) → Q Z' I' L') : f_X6_survey B v0 Z I L Q := by
  obtain ⟨u8, h8, k8, -⟩ := sh_f w_I.1 kv0 (j := 8) (k := 14) (m := 25) rfl
  unfold f_X6_survey
  exact ⟨n + 2, sv_L2 w_I bd v0 kv0 u9 u10 u8 h9 h10 h8 b0 b1 b2 b4 b5 b6 b7 hcb d0 d1 d2 d4 d5 d6 d7 hcd u4 u5 u6 u7 lp n op C E lu hM hlp hn hC hE K P eK' eP hK hP hQ (n + 2) 0 0 I (Nat.le_refl _) (Nat.zero_le _) rfl w_I FR.rf (fun _ _ => rfl) (fun q hq => absurd hq (Nat.not_lt_zero q))⟩
end
