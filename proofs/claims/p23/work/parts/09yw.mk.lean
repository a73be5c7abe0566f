/-! ===== the class: rows of each cost ===== -/
def kg (c e : Int) : Int := c * 2199023255552 + e * 536870912
def mvE (C E : Nat → Nat → Int) (p far : Nat) : Int := C p far * 2199023255552 + E p far * 536870912
theorem kg_cost {c e : Int} (he : 0 ≤ e ∧ e ≤ 4095) : cK (kg c e) = c := by
  unfold cK kg
  omega
theorem kg_eff {c e : Int} (he : 0 ≤ e ∧ e ≤ 4095) : eK (kg c e) = e := by
  unfold eK kg
  omega
theorem kg_add {C E : Nat → Nat → Int} {p far : Nat} {c e : Int} : kg c e + mvE C E p far = kg (c + C p far) (e + E p far) := by
  unfold kg mvE
  omega
theorem eK_le {x y : Int} (h : cK y = cK x) (l : y ≤ x) : eK y ≤ eK x := by
  unfold cK at h
  unfold eK
  omega
/-- of rows merged: of each cost the least, efforts to lim -/
def ke (P : Int) (j : Nat) (lim : Int) : Nat → (Nat → List Int) → Int → List Int
  | 0, _, _ => []
  | f + 1, S, la => if lim < 0 then [] else if P < cK (hdB (S (wh (fun i => hdB (S i)) j))) then [] else if eK (hdB (S (wh (fun i => hdB (S i)) j))) ≤ lim then (if cK (hdB (S (wh (fun i => hdB (S i)) j))) = la then ke P j lim f (tkS S (wh (fun i => hdB (S i)) j)) la else hdB (S (wh (fun i => hdB (S i)) j)) :: ke P j lim f (tkS S (wh (fun i => hdB (S i)) j)) (cK (hdB (S (wh (fun i => hdB (S i)) j))))) else ke P j lim f (tkS S (wh (fun i => hdB (S i)) j)) la
theorem wh_pos {S : Nat → List Int} {j f : Nat} (hf : f + 1 ≤ cnS S (j + 1)) (hs : ∀ i, srt (S i)) (hB : ∀ i x, x ∈ S i → x < BIG) : (S (wh (fun i => hdB (S i)) j)).length ≠ 0 := by
  obtain ⟨i, hi, hl⟩ : ∃ i, i ≤ j ∧ (S i).length ≠ 0 := by
    refine Classical.byContradiction (fun q => ?_)
    have z : ∀ k, k ≤ j + 1 → cnS S k = 0 := by
      intro k
      induction k with
      | zero => intro _; rfl
      | succ k ihk =>
        intro hk
        show cnS S k + (S k).length = 0
        rw [ihk (by omega)]
        have : (S k).length = 0 := Classical.byContradiction (fun q2 => q ⟨k, by omega, q2⟩)
        omega
    have := z (j + 1) (Nat.le_refl _)
    omega
  exact (wh_ne hs hi (hd_mem hl) (hB i _ (hd_mem hl))).1
set_option maxHeartbeats 1000000 in
theorem ke_in {P lim : Int} {j : Nat} : ∀ (f : Nat) (S : Nat → List Int) (la : Int) (y : Int), f ≤ cnS S (j + 1) → (∀ i, srt (S i)) → (∀ i x, x ∈ S i → x < BIG) → y ∈ ke P j lim f S la → (∃ i, i ≤ j ∧ y ∈ S i) ∧ eK y ≤ lim ∧ cK y ≤ P := by
  intro f
  induction f with
  | zero => intro S la y hf hs hB h; exact absurd h List.not_mem_nil
  | succ f ih =>
    intro S la y hf hs hB h
    have hne := wh_pos hf hs hB
    have hc := (cnS_tk hne (j + 1)).2 (Nat.lt_succ_of_le (wh_le _ j))
    have up : ∀ la', y ∈ ke P j lim f (tkS S (wh (fun i => hdB (S i)) j)) la' → (∃ i, i ≤ j ∧ y ∈ S i) ∧ eK y ≤ lim ∧ cK y ≤ P := by
      intro la' hy
      obtain ⟨⟨i, hi, hm⟩, g2, g3⟩ := ih _ la' y (by omega) (tk_srt hs) (fun i x hx => hB i x (tk_mem hx)) hy
      exact ⟨⟨i, hi, tk_mem hm⟩, g2, g3⟩
    have h : y ∈ (if lim < 0 then [] else if P < cK (hdB (S (wh (fun i => hdB (S i)) j))) then [] else if eK (hdB (S (wh (fun i => hdB (S i)) j))) ≤ lim then (if cK (hdB (S (wh (fun i => hdB (S i)) j))) = la then ke P j lim f (tkS S (wh (fun i => hdB (S i)) j)) la else hdB (S (wh (fun i => hdB (S i)) j)) :: ke P j lim f (tkS S (wh (fun i => hdB (S i)) j)) (cK (hdB (S (wh (fun i => hdB (S i)) j))))) else ke P j lim f (tkS S (wh (fun i => hdB (S i)) j)) la) := h
    by_cases c1 : lim < 0
    · rw [if_pos c1] at h; exact absurd h List.not_mem_nil
    rw [if_neg c1] at h
    by_cases c2 : P < cK (hdB (S (wh (fun i => hdB (S i)) j)))
    · rw [if_pos c2] at h; exact absurd h List.not_mem_nil
    rw [if_neg c2] at h
    by_cases c3 : eK (hdB (S (wh (fun i => hdB (S i)) j))) ≤ lim
    · rw [if_pos c3] at h
      by_cases c4 : cK (hdB (S (wh (fun i => hdB (S i)) j))) = la
      · rw [if_pos c4] at h
        exact up _ h
      · rw [if_neg c4] at h
        rcases List.mem_cons.mp h with e | e
        · rw [e]
          exact ⟨⟨_, wh_le _ j, hd_mem hne⟩, c3, by omega⟩
        · exact up _ e
    · rw [if_neg c3] at h
      exact up _ h
set_option maxHeartbeats 1000000 in
theorem ke_all {P lim : Int} {j : Nat} : ∀ (f : Nat) (S : Nat → List Int) (la : Int) (i : Nat) (x : Int), f = cnS S (j + 1) → (∀ i, srt (S i)) → (∀ i x, x ∈ S i → x < BIG) → i ≤ j → x ∈ S i → eK x ≤ lim → cK x ≤ P → cK x = la ∨ ∃ y, y ∈ ke P j lim f S la ∧ cK y = cK x ∧ y ≤ x := by
  intro f
  induction f with
  | zero =>
    intro S la i x hf hs hB hi hx he hc
    have : (S i).length ≠ 0 := fun q => by
      rw [List.eq_nil_of_length_eq_zero q] at hx
      exact absurd hx List.not_mem_nil
    have := cnS_pos this (j + 1) (by omega)
    omega
  | succ f ih =>
    intro S la i x hf hs hB hi hx he hc
    obtain ⟨hne, hle⟩ := wh_ne (j := j) hs hi hx (hB i x hx)
    have hcn := (cnS_tk hne (j + 1)).2 (Nat.lt_succ_of_le (wh_le _ j))
    have er := eK_rng x
    have ck := cK_mono hle
    have e : ke P j lim (f + 1) S la = (if lim < 0 then [] else if P < cK (hdB (S (wh (fun i => hdB (S i)) j))) then [] else if eK (hdB (S (wh (fun i => hdB (S i)) j))) ≤ lim then (if cK (hdB (S (wh (fun i => hdB (S i)) j))) = la then ke P j lim f (tkS S (wh (fun i => hdB (S i)) j)) la else hdB (S (wh (fun i => hdB (S i)) j)) :: ke P j lim f (tkS S (wh (fun i => hdB (S i)) j)) (cK (hdB (S (wh (fun i => hdB (S i)) j))))) else ke P j lim f (tkS S (wh (fun i => hdB (S i)) j)) la) := rfl
    rw [if_neg (by omega), if_neg (by omega)] at e
    have rest : ∀ la', x ∈ tkS S (wh (fun i => hdB (S i)) j) i → cK x = la' ∨ ∃ y, y ∈ ke P j lim f (tkS S (wh (fun i => hdB (S i)) j)) la' ∧ cK y = cK x ∧ y ≤ x := fun la' h2 => ih _ la' i x (by omega) (tk_srt hs) (fun i x hx => hB i x (tk_mem hx)) hi h2 he hc
    rw [e]
    by_cases c3 : eK (hdB (S (wh (fun i => hdB (S i)) j))) ≤ lim
    · rw [if_pos c3]
      by_cases c4 : cK (hdB (S (wh (fun i => hdB (S i)) j))) = la
      · rw [if_pos c4]
        rcases tk_or (i := wh (fun i => hdB (S i)) j) hx with ⟨-, ex⟩ | hx2
        · rw [← ex] at c4
          exact Or.inl c4
        · exact rest _ hx2
      · rw [if_neg c4]
        right
        rcases tk_or (i := wh (fun i => hdB (S i)) j) hx with ⟨-, ex⟩ | hx2
        · exact ⟨_, List.mem_cons_self, by rw [← ex], hle⟩
        · rcases rest (cK (hdB (S (wh (fun i => hdB (S i)) j)))) hx2 with q | ⟨y, hy, g⟩
          · exact ⟨_, List.mem_cons_self, q.symm, hle⟩
          · exact ⟨y, List.mem_cons_of_mem _ hy, g⟩
    · rw [if_neg c3]
      rcases tk_or (i := wh (fun i => hdB (S i)) j) hx with ⟨-, ex⟩ | hx2
      · rw [← ex] at c3; omega
      · exact rest _ hx2
set_option maxHeartbeats 1000000 in
theorem ke_srt {P lim : Int} {j : Nat} : ∀ (f : Nat) (S : Nat → List Int) (la : Int), f ≤ cnS S (j + 1) → (∀ i, srt (S i)) → (∀ i x, x ∈ S i → x < BIG) → srt (ke P j lim f S la) := by
  intro f
  induction f with
  | zero => intro S la hf hs hB; exact List.Pairwise.nil
  | succ f ih =>
    intro S la hf hs hB
    have e : ke P j lim (f + 1) S la = (if lim < 0 then [] else if P < cK (hdB (S (wh (fun i => hdB (S i)) j))) then [] else if eK (hdB (S (wh (fun i => hdB (S i)) j))) ≤ lim then (if cK (hdB (S (wh (fun i => hdB (S i)) j))) = la then ke P j lim f (tkS S (wh (fun i => hdB (S i)) j)) la else hdB (S (wh (fun i => hdB (S i)) j)) :: ke P j lim f (tkS S (wh (fun i => hdB (S i)) j)) (cK (hdB (S (wh (fun i => hdB (S i)) j))))) else ke P j lim f (tkS S (wh (fun i => hdB (S i)) j)) la) := rfl
    rw [e]
    by_cases c1 : lim < 0
    · rw [if_pos c1]; exact List.Pairwise.nil
    rw [if_neg c1]
    by_cases c2 : P < cK (hdB (S (wh (fun i => hdB (S i)) j)))
    · rw [if_pos c2]; exact List.Pairwise.nil
    rw [if_neg c2]
    have hne := wh_pos hf hs hB
    have hcn := (cnS_tk hne (j + 1)).2 (Nat.lt_succ_of_le (wh_le _ j))
    have hf2 : f ≤ cnS (tkS S (wh (fun i => hdB (S i)) j)) (j + 1) := by omega
    have hr := fun la' => ih (tkS S (wh (fun i => hdB (S i)) j)) la' hf2 (tk_srt hs) (fun i x hx => hB i x (tk_mem hx))
    by_cases c3 : eK (hdB (S (wh (fun i => hdB (S i)) j))) ≤ lim
    · rw [if_pos c3]
      by_cases c4 : cK (hdB (S (wh (fun i => hdB (S i)) j))) = la
      · rw [if_pos c4]
        exact hr _
      · rw [if_neg c4]
        refine List.pairwise_cons.mpr ⟨fun y hy => ?_, hr _⟩
        obtain ⟨⟨i, hi, hm⟩, -, -⟩ := ke_in f _ _ y hf2 (tk_srt hs) (fun i x hx => hB i x (tk_mem hx)) hy
        have hm := tk_mem hm
        exact (wh_ne (j := j) hs hi hm (hB i y hm)).2
    · rw [if_neg c3]
      exact hr _
set_option maxHeartbeats 1000000 in
theorem ke_len {P lim : Int} {j : Nat} : ∀ (f : Nat) (S : Nat → List Int) (la : Int), f ≤ cnS S (j + 1) → (∀ i, srt (S i)) → (∀ i x, x ∈ S i → x < BIG) → la ≤ P → (∀ i x, i ≤ j → x ∈ S i → la ≤ cK x) → ((ke P j lim f S la).length : Int) ≤ P - la := by
  intro f
  induction f with
  | zero => intro S la hf hs hB hP hl; show (0 : Int) ≤ P - la; omega
  | succ f ih =>
    intro S la hf hs hB hP hl
    have e : ke P j lim (f + 1) S la = (if lim < 0 then [] else if P < cK (hdB (S (wh (fun i => hdB (S i)) j))) then [] else if eK (hdB (S (wh (fun i => hdB (S i)) j))) ≤ lim then (if cK (hdB (S (wh (fun i => hdB (S i)) j))) = la then ke P j lim f (tkS S (wh (fun i => hdB (S i)) j)) la else hdB (S (wh (fun i => hdB (S i)) j)) :: ke P j lim f (tkS S (wh (fun i => hdB (S i)) j)) (cK (hdB (S (wh (fun i => hdB (S i)) j))))) else ke P j lim f (tkS S (wh (fun i => hdB (S i)) j)) la) := rfl
    rw [e]
    by_cases c1 : lim < 0
    · rw [if_pos c1]; show (0 : Int) ≤ P - la; omega
    rw [if_neg c1]
    by_cases c2 : P < cK (hdB (S (wh (fun i => hdB (S i)) j)))
    · rw [if_pos c2]; show (0 : Int) ≤ P - la; omega
    rw [if_neg c2]
    have hne := wh_pos hf hs hB
    have hcn := (cnS_tk hne (j + 1)).2 (Nat.lt_succ_of_le (wh_le _ j))
    have hf2 : f ≤ cnS (tkS S (wh (fun i => hdB (S i)) j)) (j + 1) := by omega
    have hH := hl _ _ (wh_le _ j) (hd_mem hne)
    have r1 := ih (tkS S (wh (fun i => hdB (S i)) j)) la hf2 (tk_srt hs) (fun i x hx => hB i x (tk_mem hx)) hP (fun i x hi hx => hl i x hi (tk_mem hx))
    by_cases c3 : eK (hdB (S (wh (fun i => hdB (S i)) j))) ≤ lim
    · rw [if_pos c3]
      by_cases c4 : cK (hdB (S (wh (fun i => hdB (S i)) j))) = la
      · rw [if_pos c4]
        exact r1
      · rw [if_neg c4, List.length_cons]
        have r2 := ih (tkS S (wh (fun i => hdB (S i)) j)) (cK (hdB (S (wh (fun i => hdB (S i)) j)))) hf2 (tk_srt hs) (fun i x hx => hB i x (tk_mem hx)) (by omega) (fun i x hi hx => cK_mono (wh_ne (j := j) hs hi (tk_mem hx) (hB i x (tk_mem hx))).2)
        omega
    · rw [if_neg c3]
      exact r1
/-- a row of a place: of each cost that can be one key, none with more effort -/
def REs (lp : Nat) (op : Nat → Prop) (C E : Nat → Nat → Int) (P lim : Int) (p : Nat) (R : List Int) : Prop := (∀ k, k ∈ R → ∃ m c e b, PX lp op C E m 0 p c e b ∧ k = kg c e ∧ e ≤ max lim 0 ∧ c ≤ P) ∧ (∀ m c e b, PX lp op C E m 0 p c e b → e ≤ lim → c ≤ P → ∃ k, k ∈ R ∧ cK k = c ∧ eK k ≤ e)
def SRE (lp : Nat) (op : Nat → Prop) (C E : Nat → Nat → Int) (R : Nat → List Int) (p : Nat) (S : Nat → List Int) (j : Nat) : Prop := (∀ i x, i ≤ j → x ∈ S i → ∃ far, alw lp op p far ∧ ∃ y, y ∈ R (p - far) ∧ x = y + mvE C E p far) ∧ (∀ far y, alw lp op p far → y ∈ R (p - far) → ∃ i, i ≤ j ∧ y + mvE C E p far ∈ S i)
set_option maxHeartbeats 1000000 in
theorem RE_step {lp n : Nat} {op : Nat → Prop} {C E : Nat → Nat → Int} {lu : Nat → Int} {K P : Int} {R : Nat → List Int} {p j : Nat} {S : Nat → List Int} (h0 : op 0) (hC : ∀ p f, 0 ≤ C p f ∧ C p f ≤ 297) (hE : ∀ p f, 0 ≤ E p f ∧ E p f ≤ 600) (hu : LUs lp n op E lu) (hK : K ≤ 999) (hP : P ≤ 999) (hp : p ≤ n) (hn : n ≤ 24) (hp0 : 0 < p) (ih : ∀ q, q < p → REs lp op C E P (K - lu q) q (R q)) (hs : SRE lp op C E R p S j) (hSs : ∀ i, srt (S i)) (hSB : ∀ i x, x ∈ S i → x < BIG) : REs lp op C E P (K - lu p) p (ke P j (K - lu p) (cnS S (j + 1)) S (-1)) := by
  refine ⟨fun y hy => ?_, fun m c e b hx he hc => ?_⟩
  · obtain ⟨⟨i, hi, hm⟩, g2, g3⟩ := ke_in _ S _ y (Nat.le_refl _) hSs hSB hy
    obtain ⟨far, ha, k, hk, ey⟩ := hs.1 i y hi hm
    obtain ⟨a1, a2, a3, a4⟩ := ha
    obtain ⟨m, c, e, b, hx, ek, he, hc⟩ := (ih (p - far) (by omega)).1 k hk
    have hx2 : PX lp op C E (m + 1) 0 p (c + C p far) (e + E p far) (b + btP p) := ⟨far, a1, a2, a3, a4, PX_cast hx rfl rfl (by omega) (by omega) (by omega)⟩
    have r := PX_rng (by omega) hC hE hx2
    have r0 := PX_rng (by omega) hC hE hx
    have u0 := hu.2.2 (p - far)
    have a9 := hE p far
    rw [ek, kg_add] at ey
    rw [ey, kg_eff (by omega)] at g2
    rw [ey, kg_cost (by omega)] at g3
    exact ⟨m + 1, _, _, _, hx2, ey, by omega, g3⟩
  · cases m with
    | zero => have := hx.1; omega
    | succ m =>
      obtain ⟨far, a1, a2, a3, a4, hx1⟩ := hx
      have oq := PX_op h0 hx1
      have r1 := PX_rng (by omega) hC hE hx1
      have c9 := hC p far
      have e9 := hE p far
      have hlu := hu.1 (p - far) far a1 a2 (by omega) oq (by rw [show p - far + far = p by omega]; exact a4)
      rw [show p - far + far = p by omega] at hlu
      obtain ⟨k, hk, k1, k2⟩ := (ih (p - far) (by omega)).2 m _ _ _ hx1 (by omega) (by omega)
      obtain ⟨m', c', e', b', hx', ek, he', hc'⟩ := (ih (p - far) (by omega)).1 k hk
      have r' := PX_rng (by omega) hC hE hx'
      have u0 := hu.2.2 (p - far)
      have u1 := hu.2.2 p
      have ee : eK k = e' := by rw [ek]; exact kg_eff (by omega)
      have ec : cK k = c' := by rw [ek]; exact kg_cost (by omega)
      obtain ⟨i, hi, hm⟩ := hs.2 far k ⟨a1, a2, a3, a4⟩ hk
      rw [ek, kg_add] at hm
      rcases ke_all (P := P) (lim := K - lu p) (j := j) _ S (-1) i _ rfl hSs hSB hi hm (by rw [kg_eff (by omega)]; omega) (by rw [kg_cost (by omega)]; omega) with q | ⟨y, hy, y1, y2⟩
      · rw [kg_cost (by omega)] at q
        omega
      · have y3 := eK_le y1 y2
        rw [kg_cost (by omega)] at y1
        rw [kg_eff (by omega)] at y3
        exact ⟨y, hy, by omega, by omega⟩
theorem RE_0 {lp : Nat} {op : Nat → Prop} {C E : Nat → Nat → Int} {P lim : Int} (hP : 0 ≤ P) : REs lp op C E P lim 0 [0] := by
  refine ⟨fun k hk => ?_, fun m c e b hx he hc => ?_⟩
  · rw [List.mem_singleton.mp hk]
    exact ⟨0, 0, 0, 0, ⟨rfl, rfl, rfl, rfl⟩, rfl, by omega, hP⟩
  · have := PX_le _ _ _ _ _ _ hx
    have em : m = 0 := by omega
    subst em
    obtain ⟨-, e1, e2, e3⟩ := hx
    subst e1; subst e2; subst e3
    exact ⟨0, List.mem_cons_self, rfl, by decide⟩
/-- a row of a place that is ready -/
def ROE (lp : Nat) (op : Nat → Prop) (C E : Nat → Nat → Int) (P K : Int) (lu : Nat → Int) (q : Nat) (l : List Int) : Prop := REs lp op C E P (K - lu q) q l ∧ srt l
theorem ROE_rng {lp : Nat} {op : Nat → Prop} {C E : Nat → Nat → Int} {P K : Int} {lu : Nat → Int} {p far : Nat} {l : List Int} (hp : p ≤ 24) (h1 : 1 ≤ far) (h2 : far ≤ p) (hC : ∀ p f, 0 ≤ C p f ∧ C p f ≤ 297) (hE : ∀ p f, 0 ≤ E p f ∧ E p f ≤ 600) (hK : K ≤ 999) (h0 : ∀ q, 0 ≤ lu q) (h : ROE lp op C E P K lu (p - far) l) : ∀ y, y ∈ l → 0 ≤ y + mvE C E p far ∧ y + mvE C E p far < BIG := by
  intro y hy
  obtain ⟨m, c, e, b, hx, ek, he, hc⟩ := h.1.1 y hy
  have r := PX_rng (by omega) hC hE hx
  have c9 := hC p far
  have e9 := hE p far
  have u0 := h0 (p - far)
  rw [ek]
  unfold kg mvE BIG
  omega
theorem n_mask (n : Nat) (h : n < 18446744073709551616) : n &&& 18446744073172680704 = n / 536870912 * 536870912 := by
  apply Nat.eq_of_testBit_eq
  intro i
  rw [Nat.testBit_and]
  have e1 : (18446744073172680704 : Nat) = 2 ^ 29 * (2 ^ 35 - 1) + 0 := by decide
  have e2 : n / 536870912 * 536870912 = 2 ^ 29 * (n / 2 ^ 29) + 0 := by omega
  have e3 : n = 2 ^ 29 * (n / 2 ^ 29) + n % 2 ^ 29 := (Nat.div_add_mod n (2 ^ 29)).symm
  rw [e1, e2, Nat.testBit_two_pow_mul_add _ (by decide), Nat.testBit_two_pow_mul_add _ (by decide)]
  have e4 : n.testBit i = if i < 29 then (n % 2 ^ 29).testBit i else (n / 2 ^ 29).testBit (i - 29) := by
    have t := Nat.testBit_two_pow_mul_add (n / 2 ^ 29) (Nat.mod_lt n (by decide : 0 < 2 ^ 29)) i
    rw [← e3] at t
    exact t
  rw [e4]
  by_cases c : i < 29
  · rw [if_pos c, if_pos c, if_pos c, Nat.zero_testBit, Bool.and_false]
  · rw [if_neg c, if_neg c, if_neg c, Nat.testBit_two_pow_sub_one]
    by_cases c2 : i - 29 < 35
    · rw [decide_eq_true c2, Bool.and_true]
    · rw [decide_eq_false c2, Bool.and_false]
      symm
      refine Nat.testBit_lt_two_pow (Nat.lt_of_lt_of_le ?_ (Nat.pow_le_pow_right (by decide) (show 35 ≤ i - 29 by omega)))
      exact Nat.div_lt_of_lt_mul h
theorem l_mask {r : Int64} {k : Int} (h : r.toInt = k) (h0 : 0 ≤ k) : (r &&& (-536870912 : Int64)).toInt = k / 536870912 * 536870912 := by
  have hm : (-536870912 : Int64).toBitVec.toNat = 18446744073172680704 := by decide
  have e1 : r.toInt = r.toBitVec.toInt := rfl
  have c1 := BitVec.toInt_eq_toNat_cond r.toBitVec
  have l1 := r.toBitVec.isLt
  have n1 : (r.toBitVec.toNat : Int) = k := by
    rw [e1, c1] at h
    by_cases c : 2 * r.toBitVec.toNat < 2 ^ 64
    · rw [if_pos c] at h
      exact h
    · rw [if_neg c] at h
      omega
  have e2 : (r &&& (-536870912 : Int64)).toInt = (r &&& (-536870912 : Int64)).toBitVec.toInt := rfl
  have n2 : (r &&& (-536870912 : Int64)).toBitVec.toNat = r.toBitVec.toNat / 536870912 * 536870912 := by
    rw [Int64.toBitVec_and, BitVec.toNat_and, hm]
    exact n_mask _ l1
  have k63 : r.toBitVec.toNat < 9223372036854775808 := by
    have t : r.toInt < 9223372036854775808 := by
      have := Int64.toInt_lt r
      exact this
    omega
  rw [e2, BitVec.toInt_eq_toNat_cond, n2, if_pos (by omega)]
  omega
def SRh (lp : Nat) (op : Nat → Prop) (C E : Nat → Nat → Int) (R : Nat → List Int) (p far m : Nat) (S : Nat → List Int) : Prop := (∀ i, m ≤ i → S i = []) ∧ (∀ i x, x ∈ S i → ∃ f, alw lp op p f ∧ ∃ y, y ∈ R (p - f) ∧ x = y + mvE C E p f) ∧ (∀ f y, f < far → alw lp op p f → y ∈ R (p - f) → ∃ i, i < m ∧ y + mvE C E p f ∈ S i) ∧ (∀ i, srt (S i)) ∧ (∀ i x, x ∈ S i → 0 ≤ x ∧ x < BIG)
theorem SRh_0 {lp : Nat} {op : Nat → Prop} {C E : Nat → Nat → Int} {R : Nat → List Int} {p : Nat} : SRh lp op C E R p 1 0 (fun _ => []) := ⟨fun _ _ => rfl, fun _ _ h => absurd h List.not_mem_nil, fun f y h ha _ => by have := ha.1; omega, fun _ => List.Pairwise.nil, fun _ _ h => absurd h List.not_mem_nil⟩
theorem SRh_nil {lp : Nat} {op : Nat → Prop} {C E : Nat → Nat → Int} {R : Nat → List Int} {p far m : Nat} {S : Nat → List Int} (h : SRh lp op C E R p far m S) (e : R (p - far) = []) : SRh lp op C E R p (far + 1) m S := by
  refine ⟨h.1, h.2.1, fun f y hf ha hy => ?_, h.2.2.2⟩
  by_cases c : f = far
  · rw [c, e] at hy
    exact absurd hy List.not_mem_nil
  · exact h.2.2.1 f y (by omega) ha hy
theorem SRh_add {lp : Nat} {op : Nat → Prop} {C E : Nat → Nat → Int} {R : Nat → List Int} {p far m : Nat} {S : Nat → List Int} (h : SRh lp op C E R p far m S) (ha : alw lp op p far) (hs : srt (R (p - far))) (hx : ∀ y, y ∈ R (p - far) → 0 ≤ y + mvE C E p far ∧ y + mvE C E p far < BIG) : SRh lp op C E R p (far + 1) (m + 1) (fun i => if i = m then (R (p - far)).map (fun x => x + mvE C E p far) else S i) := by
  have at_ : ∀ i, i = m → (fun i => if i = m then (R (p - far)).map (fun x => x + mvE C E p far) else S i) i = (R (p - far)).map (fun x => x + mvE C E p far) := fun i e => if_pos e
  have off : ∀ i, i ≠ m → (fun i => if i = m then (R (p - far)).map (fun x => x + mvE C E p far) else S i) i = S i := fun i e => if_neg e
  generalize (fun i => if i = m then (R (p - far)).map (fun x => x + mvE C E p far) else S i) = S' at at_ off
  obtain ⟨h1, h2, h3, h4, h5⟩ := h
  refine ⟨fun i hi => ?_, fun i x hi => ?_, fun f y hf hal hy => ?_, fun i => ?_, fun i x hi => ?_⟩
  · rw [off i (by omega)]
    exact h1 i (by omega)
  · by_cases c : i = m
    · rw [at_ i c] at hi
      obtain ⟨y, hy, ey⟩ := List.mem_map.mp hi
      exact ⟨far, ha, y, hy, ey.symm⟩
    · rw [off i c] at hi
      exact h2 i x hi
  · by_cases c : f = far
    · refine ⟨m, by omega, ?_⟩
      rw [at_ m rfl]
      rw [c] at hy ⊢
      exact List.mem_map.mpr ⟨y, hy, rfl⟩
    · obtain ⟨i, hi, hm⟩ := h3 f y (by omega) hal hy
      refine ⟨i, by omega, ?_⟩
      rw [off i (by omega)]
      exact hm
  · by_cases c : i = m
    · rw [at_ i c]
      exact srt_map hs
    · rw [off i c]
      exact h4 i
  · by_cases c : i = m
    · rw [at_ i c] at hi
      obtain ⟨y, hy, ey⟩ := List.mem_map.mp hi
      rw [← ey]
      exact hx y hy
    · rw [off i c] at hi
      exact h5 i x hi
set_option maxHeartbeats 4000000 in
theorem c_feedE_L8 {Z : jZ} {I : jI} {L : jL} (w_I : WD Z I) (v0 v1 : Nat) (v2 : Int32) (kv0 : jk Z v0 6) (kv1 : jk Z v1 7) (b0 b1 b2 b4 b5 b6 b7 : Nat) (hc : RCs Z v1 b0 b1 b2 b4 b5 b6 b7) (u4 u5 u6 u7 lp n : Nat) (op : Nat → Prop) (C E : Nat → Nat → Int) (lu : Nat → Int) (hM : MVs Z I v0 u4 u5 u6 u7 lp n op C E lu) (hlp : lp ≤ 3) (hn : n ≤ 24) (hC : ∀ p f, 0 ≤ C p f ∧ C p f ≤ 297) (hE : ∀ p f, 0 ≤ E p f ∧ E p f ≤ 600) (p : Nat) (hp : 1 ≤ p) (hpn : p ≤ n) (e2v : v2.toInt = (p : Int)) (R : Nat → List Int) (hsR : ∀ q, q < p → srt (R q)) (hxR : ∀ f y, alw lp op p f → y ∈ R (p - f) → 0 ≤ y + mvE C E p f ∧ y + mvE C E p f < BIG) {Q : jI → jL → Prop}
    (hQ : ∀ (I' : jI) (L' : jL) (S : Nat → List Int) (m : Nat), WD Z I' → FR W7 Z I Z I' → RO v1 Z I I' → I' v1 3 = I v1 3 → RRb I' L' b0 b1 b2 R → MGb I' L' v1 b0 b4 b5 b6 b7 S m → CUr I' v1 b1 R p → SRE lp op C E R p S (m - 1) → cnS S (m - 1 + 1) = cnS S m → (∀ i, srt (S i)) → (∀ i x, x ∈ S i → 0 ≤ x ∧ x < BIG) → (∀ x, x ≠ b6 → x ≠ b7 → L' x = L x) → Q I' L') :
    ∀ (k far m : Nat) (v6 : Int32) (I1 : jI) (L1 : jL) (S : Nat → List Int), 1 ≤ far → far ≤ 4 → 5 ≤ k + far → v6.toInt = (far : Int) → m + 1 ≤ far → SRh lp op C E R p far m S → WD Z I1 → FR W7 Z I Z I1 → RO v1 Z I I1 → I1 v1 3 = I v1 3 → RRb I1 L1 b0 b1 b2 R → MGb I1 L1 v1 b0 b4 b5 b6 b7 S m → CUr I1 v1 b1 R p → (∀ x, x ≠ b6 → x ≠ b7 → L1 x = L x) → f_X6_feed_L8 Z Q k v0 v1 v2 (-536870912 : Int64) (-1 : Int32) v6 I1 L1 := by
  have z0 : (0 : Int32).toInt = 0 := rfl
  have z1 : (1 : Int32).toInt = 1 := rfl
  have zm : (-1 : Int32).toInt = -1 := by decide
  intro k
  induction k with
  | zero => intro far m v6 I1 L1 S h1 h4 hk; omega
  | succ k ih =>
    intro far m v6 I1 L1 S h1 h4 hk e6v hm hS w fr ro a3 hR hMG hcu hL
    have hM1 := MVs_fr w_I kv0 fr hM
    obtain ⟨⟨g4, g5, g6, g7⟩, m3, m15, mo, mm, mu⟩ := hM1
    have done : (∀ f, alw lp op p f → f < far) → Q I1 L1 := fun hd => by
      obtain ⟨s1, s2, s3, s4, s5⟩ := hS
      refine hQ I1 L1 S m w fr ro a3 hR hMG hcu ⟨fun i x _ hx => s2 i x hx, fun f y ha hy => ?_⟩ ?_ s4 s5 hL
      · obtain ⟨i, hi, hm'⟩ := s3 f y (hd f ha) ha hy
        exact ⟨i, by omega, hm'⟩
      · cases m with
        | zero =>
          show 0 + (S 0).length = 0
          rw [s1 0 (Nat.le_refl _)]
          rfl
        | succ m => rfl
    unfold f_X6_feed_L8
    refine ⟨fun c => done (fun f ha => ?_), fun c => ⟨fun c2 => done (fun f ha => ?_), fun c2 => ?_⟩⟩
    · have c := (i_lt m3 e6v).mp c
      have := ha.2.1
      omega
    · have c2 := (i_lt e2v e6v).mp c2
      have := ha.2.2.1
      omega
    have c := (not_congr (i_lt m3 e6v)).mp c
    have c2 := (not_congr (i_lt e2v e6v)).mp c2
    have qn : v2.toNatClampNeg = p := by have := i_nat e2v (by omega); omega
    intro b h; cases g6.symm.trans h
    rw [qn]
    refine ⟨vi_of e2v (by omega) (by omega), fun c3 => done (fun f ha => absurd c3 ((mo p hpn).mpr ha.2.2.2)), fun c3 => ?_⟩
    have ho : op p := (mo p hpn).mp c3
    have ha : alw lp op p far := ⟨h1, by omega, by omega, ho⟩
    have tf := i_sub e2v e6v (by omega) (by omega)
    have t5 := i_add zm z1 (by omega) (by omega)
    refine ⟨fun _ => ?_, fun c4 => absurd ((i_le t5 tf).mpr (by omega)) c4⟩
    unfold f_X6_feed_b55 f_X6_feed_b56
    refine ⟨fun c5 => absurd rfl c5, fun _ => ?_⟩
    obtain ⟨mc, me⟩ := mm p far ha hpn
    have nx : ∀ x : Int32, x = v6 + 1 → x.toInt = ((far + 1 : Nat) : Int) := fun x ex => by
      rw [ex]
      exact (i_add e6v z1 (by omega) (by omega)).trans (by omega)
    refine c_keyOf v0 v2 v6 u4 u5 g4 g5 p far e2v e6v ⟨hp, by omega⟩ ⟨h1, by omega⟩ mc me (hC p far) (hE p far) (fun r er => ?_)
    have er9 : (r &&& (-536870912 : Int64)).toInt = mvE C E p far := by
      have c9 := hC p far
      have e9 := hE p far
      have l := btP_less (show p ≤ 24 by omega) p hp (Nat.le_refl _)
      have b0 : btP (p - p) = 16777216 := by rw [Nat.sub_self]; rfl
      have bp := btP_pos p
      have k0 : 0 ≤ mvK C E p far := by unfold mvK; omega
      rw [l_mask er k0]
      unfold mvK mvE
      omega
    generalize (r &&& (-536870912 : Int64)) = r9 at er9 ⊢
    refine r_X7_merge w v1 (v2 - v6) r9 kv1 b0 b1 b2 b4 b5 b6 b7 hc (p - far) (tf.trans (by omega)) (by omega) R hR S m hMG (by omega) _ er9 (fun x hx => hxR far x ha hx) (fun e => ?_) (fun I' L' w' f' fi' ro' a3' a1' hne hR' hMG' lo' => ?_)
    · unfold f_X6_feed_b80
      intro x ex
      exact ih (far + 1) m x I1 L1 S (by omega) (by omega) (by omega) (nx x ex) (by omega) (SRh_nil hS e) w fr ro a3 hR hMG hcu hL
    · unfold f_X6_feed_b80
      intro x ex
      refine ih (far + 1) (m + 1) x I' L' _ (by omega) (by omega) (by omega) (nx x ex) (by omega) (SRh_add hS ha (hsR _ (by omega)) (fun y hy => hxR far y ha hy)) w' (FR.trans w_I.1 w_I.2.1 fr f') (RO.trans jext_rfl ro ro') (a3'.trans a3) hR' hMG' ?_ (fun x h6 h7 => (lo' x h6 h7).trans (hL x h6 h7))
      unfold CUr
      rw [a1', a3']
      exact hcu
theorem r_X6_feedE {Z : jZ} {I : jI} {L : jL} (w_I : WD Z I) (v0 v1 : Nat) (v2 : Int32) (kv0 : jk Z v0 6) (kv1 : jk Z v1 7) (b0 b1 b2 b4 b5 b6 b7 : Nat) (hc : RCs Z v1 b0 b1 b2 b4 b5 b6 b7) (u4 u5 u6 u7 lp n : Nat) (op : Nat → Prop) (C E : Nat → Nat → Int) (lu : Nat → Int) (hM : MVs Z I v0 u4 u5 u6 u7 lp n op C E lu) (hlp : lp ≤ 3) (hn : n ≤ 24) (hC : ∀ p f, 0 ≤ C p f ∧ C p f ≤ 297) (hE : ∀ p f, 0 ≤ E p f ∧ E p f ≤ 600) (p : Nat) (hp : 1 ≤ p) (hpn : p ≤ n) (e2v : v2.toInt = (p : Int)) (R : Nat → List Int) (hR : RRb I L b0 b1 b2 R) (hsR : ∀ q, q < p → srt (R q)) (hxR : ∀ f y, alw lp op p f → y ∈ R (p - f) → 0 ≤ y + mvE C E p f ∧ y + mvE C E p f < BIG) {Q : jI → jL → Prop}
    (hQ : ∀ (I' : jI) (L' : jL) (S : Nat → List Int) (m : Nat), WD Z I' → FR W7 Z I Z I' → RO v1 Z I I' → I' v1 3 = I v1 3 → RRb I' L' b0 b1 b2 (fun q => if q = p then [] else R q) → MGb I' L' v1 b0 b4 b5 b6 b7 S m → CUr I' v1 b1 (fun q => if q = p then [] else R q) p → SRE lp op C E (fun q => if q = p then [] else R q) p S (m - 1) → cnS S (m - 1 + 1) = cnS S m → (∀ i, srt (S i)) → (∀ i x, x ∈ S i → 0 ≤ x ∧ x < BIG) → (∀ x, x ≠ b6 → x ≠ b7 → L' x = L x) → Q I' L') : f_X6_feed v0 v1 v2 (-536870912 : Int64) (-1 : Int32) Z I L Q := by
  unfold f_X6_feed
  have lo : ∀ q, q < p → (fun q => if q = p then ([] : List Int) else R q) q = R q := fun q hq => if_neg (by omega)
  refine r_X7_start w_I v1 v2 kv1 b0 b1 b2 b4 b5 b6 b7 hc p e2v (by omega) R hR (fun I2 w2 f2 p2 o2 a3 hR2 hS2 hcu2 => ?_)
  refine ⟨5, c_feedE_L8 w_I v0 v1 v2 kv0 kv1 b0 b1 b2 b4 b5 b6 b7 hc u4 u5 u6 u7 lp n op C E lu hM hlp hn hC hE p hp hpn e2v _ (fun q hq => ?_) (fun f y ha hy => ?_) hQ 5 1 0 1 I2 L (fun _ => []) (Nat.le_refl _) (by omega) (by omega) rfl (Nat.le_refl _) SRh_0 w2 f2 o2 a3 hR2 hS2 hcu2 (fun _ _ _ => rfl)⟩
  · show srt ((fun q => if q = p then ([] : List Int) else R q) q)
    rw [lo q hq]
    exact hsR q hq
  · have hy : y ∈ (fun q => if q = p then ([] : List Int) else R q) (p - f) := hy
    have h1 := ha.1
    have h2 := ha.2.2.1
    rw [lo _ (by omega)] at hy
    exact hxR f y ha hy
set_option maxHeartbeats 4000000 in
theorem c_keepE_L9 {B : Nat × Nat} {T : Nat} {Z : jZ} {I : jI} {L : jL} (w_I : WD Z I) (v0 : Nat) (kv0 : jk Z v0 7) (b0 b1 b2 b4 b5 b6 b7 : Nat) (p : Nat) (hp : p < 25) (v1 v2 v3 : Int32) (lim : Int) (e2v : v2.toInt = lim) (e1v : v1.toInt = (p : Int)) (P : Int) (e3v : v3.toInt = P) (R : Nat → List Int) (m : Nat) (X : List Int) {Q : jZ → jI → jL → Prop}
    (hQ : ∀ (Z' : jZ) (I' : jI) (L' : jL) (c0 : Nat), WD Z' I' → BUD B Z' T → FR W7 Z I Z' I' → CP Z Z' → RO v0 Z I I' → (I' v0 3).toInt = (I v0 3).toInt + (X.length : Int) → RCs Z' v0 c0 b1 b2 b4 b5 b6 b7 → RRb I' L' c0 b1 b2 (fun q => if q = p then X else R q) → CUr I' v0 b1 (fun q => if q = p then X else R q) p → (c0 = b0 ∨ c0 ∉ Z.1) → (∀ x, x ∈ Z.1 → x ≠ b0 → x ≠ b7 → L' x = L x) → Q Z' I' L') :
    ∀ (n f : Nat) (v4 v5 : Int32) (la : Int) (Z1 : jZ) (I1 : jI) (L1 : jL) (c0 : Nat) (acc : List Int) (S : Nat → List Int), f + 1 ≤ n → v5.toInt = (f : Int) → f = cnS S m → v4.toInt = la → acc ++ ke P (m - 1) lim f S la = X → WD Z1 I1 → BUD B Z1 T → FR W7 Z I Z1 I1 → CP Z Z1 → RO v0 Z I I1 → (I1 v0 3).toInt = (I v0 3).toInt + (acc.length : Int) → (I1 v0 3).toInt + (P - la) ≤ 98304 → (∀ i x, i ≤ m - 1 → x ∈ S i → la ≤ cK x) → RCs Z1 v0 c0 b1 b2 b4 b5 b6 b7 → RRb I1 L1 c0 b1 b2 (fun q => if q = p then acc else R q) → MGb I1 L1 v0 c0 b4 b5 b6 b7 S m → CUr I1 v0 b1 (fun q => if q = p then acc else R q) p → (c0 = b0 ∨ c0 ∉ Z.1) → (∀ x, x ∈ Z.1 → x ≠ b0 → x ≠ b7 → L1 x = L x) → (∀ i, srt (S i)) → (∀ i x, x ∈ S i → 0 ≤ x ∧ x < BIG) → f_X7_keepEachCost_L9 B Q n v0 v1 v2 v3 v4 v5 Z1 I1 L1 := by
  have z0 : (0 : Int32).toInt = 0 := rfl
  have z1 : (1 : Int32).toInt = 1 := rfl
  have zm : (-1 : Int32).toInt = -1 := by decide
  intro n
  induction n with
  | zero => intro f v4 v5 la Z1 I1 L1 c0 acc S hf; omega
  | succ n ih =>
    intro f v4 v5 la Z1 I1 L1 c0 acc S hf e5 ef e4 eX w b fr cp ro h3 hb hla hc hR hS hcu hc0 hL hs hB
    have kv1 : jk Z1 v0 7 := (fr.1 v0 7 kv0).1
    have fin : acc = X → Q Z1 I1 L1 := fun e => by
      subst e
      exact hQ Z1 I1 L1 c0 w b fr cp ro h3 hc hR hcu hc0 hL
    unfold f_X7_keepEachCost_L9
    refine ⟨fun c => fin ?_, fun c => ⟨fun c2 => fin ?_, fun c2 => ?_⟩⟩
    · have c := (i_le e5 z0).mp c
      have e : f = 0 := by omega
      rw [e] at eX
      rw [← eX]
      exact (List.append_nil acc).symm
    · have c2 := (i_lt e2v z0).mp c2
      rw [← eX]
      cases f with
      | zero => exact (List.append_nil acc).symm
      | succ f =>
        have e : ke P (m - 1) lim (f + 1) S la = [] := if_pos c2
        rw [e]
        exact (List.append_nil acc).symm
    have c := (not_congr (i_le e5 z0)).mp c
    have c2 := (not_congr (i_lt e2v z0)).mp c2
    obtain ⟨f', rfl⟩ : ∃ f', f = f' + 1 := ⟨f - 1, by omega⟩
    have hm : 1 ≤ m := by
      cases m with
      | zero => exact absurd ef (Nat.succ_ne_zero f')
      | succ m => omega
    have hcn : cnS S m ≠ 0 := by omega
    have hB' : ∀ i x, x ∈ S i → x < BIG := fun i x hx => (hB i x hx).2
    obtain ⟨hwl, hwm⟩ := wh_some hs hB' hm hcn
    obtain ⟨q06, q07, q67, -⟩ := RC_ne w kv1 hc
    have tk := fun (Q' : Int64 → jI → jL → Prop) => r_X7_take (Q := Q') w v0 kv1 c0 b1 b2 b4 b5 b6 b7 hc S m hS hm hcn hs hB'
    have hmn : ∀ i x, i ≤ m - 1 → x ∈ S i → hdB (S (wh (fun i => hdB (S i)) (m - 1))) ≤ x := fun i x hi hx => (wh_ne hs hi hx (hB' i x hx)).2
    have hwj : wh (fun i => hdB (S i)) (m - 1) ≤ m - 1 := wh_le _ _
    have e : ke P (m - 1) lim (f' + 1) S la = if P < cK (hdB (S (wh (fun i => hdB (S i)) (m - 1)))) then [] else if eK (hdB (S (wh (fun i => hdB (S i)) (m - 1)))) ≤ lim then (if cK (hdB (S (wh (fun i => hdB (S i)) (m - 1)))) = la then ke P (m - 1) lim f' (tkS S (wh (fun i => hdB (S i)) (m - 1))) la else hdB (S (wh (fun i => hdB (S i)) (m - 1))) :: ke P (m - 1) lim f' (tkS S (wh (fun i => hdB (S i)) (m - 1))) (cK (hdB (S (wh (fun i => hdB (S i)) (m - 1)))))) else ke P (m - 1) lim f' (tkS S (wh (fun i => hdB (S i)) (m - 1))) la := if_neg c2
    generalize wh (fun i => hdB (S i)) (m - 1) = wi at hwl hwm tk e hmn hwj
    refine tk _ (fun r I6 L7 w6 f6 fi6 ro6 a3 a1 a2 er hS6 lo6 => ?_)
    have hk := hB _ _ (hd_mem hwl)
    have hcn2 := (cnS_tk hwl m).2 hwm
    have rk := eK_rng (hdB (S wi))
    have hH := hla _ _ hwj (hd_mem hwl)
    have hmn' : ∀ i x, i ≤ m - 1 → x ∈ tkS S wi i → cK (hdB (S wi)) ≤ cK x := fun i x hi hx => cK_mono (hmn i x hi (tk_mem hx))
    have hla' : ∀ i x, i ≤ m - 1 → x ∈ tkS S wi i → la ≤ cK x := fun i x hi hx => hla i x hi (tk_mem hx)
    clear hmn
    generalize hdB (S wi) = key at er hk rk e hH hmn'
    have f16 := FR.trans w_I.1 w_I.2.1 fr f6
    have ro16 : RO v0 Z I I6 := RO.trans fr.1 ro ro6
    have hR6 : RRb I6 L7 c0 b1 b2 (fun q => if q = p then acc else R q) := fun q hq => by
      rw [a1, a2, lo6 c0 q07]
      exact hR q hq
    have hcu6 : CUr I6 v0 b1 (fun q => if q = p then acc else R q) p := by
      unfold CUr
      rw [a1, a3]
      exact hcu
    have hL6 : ∀ x, x ∈ Z.1 → x ≠ b0 → x ≠ b7 → L7 x = L x := fun x hx h1 h2 => (lo6 x h2).trans (hL x hx h1 h2)
    have fin6 : acc = X → Q Z1 I6 L7 := fun e => by
      subst e
      exact hQ Z1 I6 L7 c0 w6 b f16 cp ro16 (by rw [a3]; exact h3) hc hR6 hcu6 hc0 hL6
    have hs' : ∀ i, srt (tkS S wi i) := tk_srt hs
    have hB6 : ∀ i x, x ∈ tkS S wi i → 0 ≤ x ∧ x < BIG := fun i x hx => hB i x (tk_mem hx)
    have r5 := i_rng v5
    have nx : ∀ x : Int32, x = v5 + (-1) → x.toInt = (f' : Int) := fun x ex => by
      rw [ex]
      exact (i_add e5 zm (by omega) (by omega)).trans (by omega)
    refine c_costIn er hk.1 (fun r17 e17 => ⟨fun c3 => ?_, fun c3 => fin6 ?_⟩)
    · have c3 := (i_le e17 e3v).mp c3
      rw [if_neg (by omega)] at e
      refine c_effortIn er hk.1 (fun r25 e25 => ⟨fun c4 => ?_, fun c4 => ?_⟩)
      · have c4 := (i_lt e2v e25).mp c4
        rw [if_neg (by omega)] at e
        rw [e] at eX
        unfold f_X7_keepEachCost_b67
        intro x ex
        exact ih f' v4 x la Z1 I6 L7 c0 acc (tkS S wi) (by omega) (nx x ex) (by omega) e4 eX w6 b f16 cp ro16 (by rw [a3]; exact h3) (by rw [a3]; exact hb) hla' hc hR6 hS6 hcu6 hc0 hL6 hs' hB6
      · have c4 := (not_congr (i_lt e2v e25)).mp c4
        rw [if_pos (by omega)] at e
        refine c_costIn er hk.1 (fun r33 e33 => ⟨fun c5 => ?_, fun c5 => ?_⟩)
        · have c5 := (i_eq e33 e4).mp c5
          rw [if_pos c5] at e
          rw [e] at eX
          unfold f_X7_keepEachCost_b67
          intro x ex
          exact ih f' v4 x la Z1 I6 L7 c0 acc (tkS S wi) (by omega) (nx x ex) (by omega) e4 eX w6 b f16 cp ro16 (by rw [a3]; exact h3) (by rw [a3]; exact hb) hla' hc hR6 hS6 hcu6 hc0 hL6 hs' hB6
        have c5 := (not_congr (i_eq e33 e4)).mp c5
        rw [if_neg c5] at e
        rw [e] at eX
        refine r_X7_push w6 b v0 v1 r kv1 c0 b1 b2 b4 b5 b6 b7 hc p e1v hp (Or.inr (by rw [a3]; omega)) key er _ hR6 _ m hS6 hcu6 (fun Z28 I29 L30 c9 w9 b9 f9 cp9 ro9 h9 hc9 hR9 hS9 hcu9 hc09 hl9 => ?_)
        rw [up_twice] at hR9 hcu9
        rw [a3] at h9
        have hl : ((acc ++ [key]).length : Int) = (acc.length : Int) + 1 := by
          rw [List.length_append]
          rfl
        refine c_costIn er hk.1 (fun x41 t41 => ?_)
        unfold f_X7_keepEachCost_b67
        intro x ex
        refine ih f' x41 x _ Z28 I29 L30 c9 (acc ++ [key]) (tkS S wi) (by omega) (nx x ex) (by omega) t41 (by rw [List.append_assoc]; exact eX) w9 b9 (FR.trans w_I.1 w_I.2.1 f16 f9) (CP.trans fr.1 cp cp9) (RO.trans fr.1 ro16 ro9) (by omega) (by omega) hmn' hc9 hR9 hS9 hcu9 ?_ ?_ hs' hB6
        · rcases hc09 with q | q
          · rw [q]; exact hc0
          · exact Or.inr (fun q2 => q (jext_mem fr.1 q2))
        · intro x hx h1 h2
          refine (hl9 x (jext_mem fr.1 hx) (fun q => ?_)).trans (hL6 x hx h1 h2)
          rcases hc0 with q2 | q2
          · exact h1 (q.trans q2)
          · exact q2 (q ▸ hx)
    · have c3 := (not_congr (i_le e17 e3v)).mp c3
      rw [if_pos (by omega)] at e
      rw [e] at eX
      rw [← eX]
      exact (List.append_nil acc).symm
theorem r_X7_keepEachCost {B : Nat × Nat} {T : Nat} {Z : jZ} {I : jI} {L : jL} (w_I : WD Z I) (bd : BUD B Z T) (v0 : Nat) (v1 v2 v3 : Int32) (kv0 : jk Z v0 7) (b0 b1 b2 b4 b5 b6 b7 : Nat) (hc : RCs Z v0 b0 b1 b2 b4 b5 b6 b7) (p : Nat) (hp : p < 25) (e1v : v1.toInt = (p : Int)) (lim : Int) (e2v : v2.toInt = lim) (P : Int) (e3v : v3.toInt = P) (R : Nat → List Int) (hR : RRb I L b0 b1 b2 (fun q => if q = p then [] else R q)) (S : Nat → List Int) (m : Nat) (hS : MGb I L v0 b0 b4 b5 b6 b7 S m) (hcu : CUr I v0 b1 (fun q => if q = p then [] else R q) p) (hl : (I v0 3).toInt + (P + 1) ≤ 98304) (hs : ∀ i, srt (S i)) (hB : ∀ i x, x ∈ S i → 0 ≤ x ∧ x < BIG) {Q : jZ → jI → jL → Prop}
    (hQ : ∀ (Z' : jZ) (I' : jI) (L' : jL) (c0 : Nat), WD Z' I' → BUD B Z' T → FR W7 Z I Z' I' → CP Z Z' → RO v0 Z I I' → (I' v0 3).toInt = (I v0 3).toInt + ((ke P (m - 1) lim (cnS S m) S (-1)).length : Int) → RCs Z' v0 c0 b1 b2 b4 b5 b6 b7 → RRb I' L' c0 b1 b2 (fun q => if q = p then ke P (m - 1) lim (cnS S m) S (-1) else R q) → CUr I' v0 b1 (fun q => if q = p then ke P (m - 1) lim (cnS S m) S (-1) else R q) p → (c0 = b0 ∨ c0 ∉ Z.1) → (∀ x, x ∈ Z.1 → x ≠ b0 → x ≠ b7 → L' x = L x) → Q Z' I' L') : f_X7_keepEachCost B v0 v1 v2 v3 Z I L Q := by
  unfold f_X7_keepEachCost
  intro x ex
  have e9 : x.toInt = ((cnS S m : Nat) : Int) := by rw [ex]; exact hS.2.2.1
  exact ⟨cnS S m + 1, c_keepE_L9 w_I v0 kv0 b0 b1 b2 b4 b5 b6 b7 p hp v1 v2 v3 lim e2v e1v P e3v R m _ hQ (cnS S m + 1) (cnS S m) (-1) x (-1) Z I L b0 [] S (Nat.le_refl _) e9 rfl rfl rfl w_I bd FR.rf CP.rf RO.rf (Int.add_zero _).symm (by omega) (fun i x _ hx => by have := (hB i x hx).1; unfold cK; omega) hc hR hS hcu (Or.inl rfl) (fun _ _ _ _ => rfl) hs hB⟩
/-! ===== climbs counted ===== -/
noncomputable def sel (p : Prop) (a b : Int) : Int := @ite _ p (Classical.propDecidable p) a b
theorem sel_y {p : Prop} {a b : Int} (h : p) : sel p a b = a := by
  unfold sel
  exact if_pos h
theorem sel_n {p : Prop} {a b : Int} (h : ¬ p) : sel p a b = b := by
  unfold sel
  exact if_neg h
def s3 (g : Nat → Int) : Int := g 1 + g 2 + g 3
theorem s3_cg {g k : Nat → Int} (h : ∀ f, 1 ≤ f → f ≤ 3 → g f = k f) : s3 g = s3 k := by
  unfold s3
  rw [h 1 (by decide) (by decide), h 2 (by decide) (by decide), h 3 (by decide) (by decide)]
theorem s3_nn {g : Nat → Int} (h : ∀ f, 1 ≤ f → f ≤ 3 → 0 ≤ g f) : 0 ≤ s3 g := by
  have a := h 1 (by decide) (by decide)
  have b := h 2 (by decide) (by decide)
  have c := h 3 (by decide) (by decide)
  unfold s3
  omega
theorem s3_z {g : Nat → Int} (h : ∀ f, 1 ≤ f → f ≤ 3 → g f = 0) : s3 g = 0 := by
  unfold s3
  rw [h 1 (by decide) (by decide), h 2 (by decide) (by decide), h 3 (by decide) (by decide)]
  rfl
theorem s3_pos {g : Nat → Int} (h : 0 < s3 g) : ∃ f, 1 ≤ f ∧ f ≤ 3 ∧ 0 < g f := by
  by_cases a : 0 < g 1
  · exact ⟨1, by decide, by decide, a⟩
  by_cases b : 0 < g 2
  · exact ⟨2, by decide, by decide, b⟩
  by_cases c : 0 < g 3
  · exact ⟨3, by decide, by decide, c⟩
  unfold s3 at h
  omega
/-- ways to place q of just so much cost and effort, by moves M -/
noncomputable def wyT (M : Nat → Nat → Prop) (C E : Nat → Nat → Int) : Nat → Nat → Int → Int → Int
  | 0 => fun q c e => if q = 0 ∧ c = 0 ∧ e = 0 then 1 else 0
  | k + 1 => fun q c e => if q = k + 1 then s3 (fun f => sel (M (k + 1) f) (wyT M C E k (k + 1 - f) (c - C (k + 1) f) (e - E (k + 1) f)) 0) else wyT M C E k q c e
theorem wyT_S {M : Nat → Nat → Prop} {C E : Nat → Nat → Int} {k q : Nat} {c e : Int} : wyT M C E (k + 1) q c e = if q = k + 1 then s3 (fun f => sel (M (k + 1) f) (wyT M C E k (k + 1 - f) (c - C (k + 1) f) (e - E (k + 1) f)) 0) else wyT M C E k q c e := rfl
theorem wyT_lo {M : Nat → Nat → Prop} {C E : Nat → Nat → Int} : ∀ (k q : Nat) (c e : Int), q ≤ k → wyT M C E k q c e = wyT M C E q q c e := by
  intro k
  induction k with
  | zero =>
    intro q c e hq
    have h : q = 0 := by omega
    subst h
    rfl
  | succ k ih =>
    intro q c e hq
    by_cases h : q = k + 1
    · subst h; rfl
    · rw [wyT_S, if_neg h]
      exact ih q c e (by omega)
noncomputable def wy (M : Nat → Nat → Prop) (C E : Nat → Nat → Int) (q : Nat) (c e : Int) : Int := wyT M C E q q c e
theorem wy_0 {M : Nat → Nat → Prop} {C E : Nat → Nat → Int} {c e : Int} : wy M C E 0 c e = if c = 0 ∧ e = 0 then 1 else 0 := by
  show (if 0 = 0 ∧ c = 0 ∧ e = 0 then (1 : Int) else 0) = _
  by_cases h : c = 0 ∧ e = 0
  · rw [if_pos h, if_pos ⟨rfl, h⟩]
  · rw [if_neg h, if_neg (fun q => h q.2)]
/-- moves to a place come from below -/
def MVt (M : Nat → Nat → Prop) : Prop := ∀ p f, M p f → 1 ≤ f ∧ f ≤ p
theorem wy_rec {M : Nat → Nat → Prop} {C E : Nat → Nat → Int} (hM : MVt M) {p : Nat} (hp : 1 ≤ p) {c e : Int} : wy M C E p c e = s3 (fun f => sel (M p f) (wy M C E (p - f) (c - C p f) (e - E p f)) 0) := by
  obtain ⟨k, rfl⟩ : ∃ k, p = k + 1 := ⟨p - 1, by omega⟩
  show wyT M C E (k + 1) (k + 1) c e = _
  rw [wyT_S, if_pos rfl]
  refine s3_cg (fun f h1 h3 => ?_)
  show sel (M (k + 1) f) (wyT M C E k (k + 1 - f) (c - C (k + 1) f) (e - E (k + 1) f)) 0 = sel (M (k + 1) f) (wyT M C E (k + 1 - f) (k + 1 - f) (c - C (k + 1) f) (e - E (k + 1) f)) 0
  rw [wyT_lo k (k + 1 - f) _ _ (by omega)]
def tbl : List Int := [1, 1, 2, 4, 7, 13, 24, 44, 81, 149, 274, 504, 927, 1705, 3136, 5768, 10609, 19513, 35890, 66012, 121415, 223317, 410744, 755476, 1389537]
def tb (p : Nat) : Int := tbl.getD p 0
theorem tb_rec : ∀ p, p < 25 → 1 ≤ p → tb (p - 1) + (if 2 ≤ p then tb (p - 2) else 0) + (if 3 ≤ p then tb (p - 3) else 0) ≤ tb p := by decide
theorem tb_rng : ∀ p, p < 25 → 1 ≤ tb p ∧ tb p ≤ 1389537 := by decide
theorem s3_tb {M : Nat → Nat → Prop} (hM : MVt M) {p : Nat} (hp : 1 ≤ p) (h24 : p ≤ 24) {g : Nat → Int} (hg : ∀ f, M p f → g f ≤ tb (p - f)) : s3 (fun f => sel (M p f) (g f) 0) ≤ tb p := by
  have r := tb_rec p (by omega) hp
  have a : ∀ f, sel (M p f) (g f) 0 ≤ if f ≤ p then tb (p - f) else 0 := fun f => by
    by_cases h : M p f
    · rw [sel_y h, if_pos (hM p f h).2]
      exact hg f h
    · rw [sel_n h]
      have := tb_rng (p - f) (by omega)
      split
      · omega
      · exact Int.le_refl 0
  have a1 := a 1
  have a2 := a 2
  have a3 := a 3
  rw [if_pos hp] at a1
  show sel (M p 1) (g 1) 0 + sel (M p 2) (g 2) 0 + sel (M p 3) (g 3) 0 ≤ tb p
  by_cases c2 : 2 ≤ p
  · rw [if_pos c2] at a2 r
    by_cases c3 : 3 ≤ p
    · rw [if_pos c3] at a3 r
      omega
    · rw [if_neg c3] at a3 r
      omega
  · rw [if_neg c2] at a2 r
    rw [if_neg (show ¬ 3 ≤ p by omega)] at a3 r
    omega
theorem wy_rng {M : Nat → Nat → Prop} {C E : Nat → Nat → Int} (hM : MVt M) : ∀ (p : Nat), p ≤ 24 → ∀ c e, 0 ≤ wy M C E p c e ∧ wy M C E p c e ≤ tb p := by
  intro p
  induction p using Nat.strongRecOn with
  | ind p ih =>
    intro hp c e
    by_cases h : p = 0
    · subst h
      rw [wy_0]
      split <;> decide
    · rw [wy_rec hM (by omega)]
      refine ⟨s3_nn (fun f h1 h3 => ?_), s3_tb hM (by omega) hp (fun f hf => (ih (p - f) (by have := hM p f hf; omega) (by omega) _ _).2)⟩
      show 0 ≤ sel (M p f) (wy M C E (p - f) (c - C p f) (e - E p f)) 0
      by_cases hf : M p f
      · rw [sel_y hf]
        exact (ih (p - f) (by have := hM p f hf; omega) (by omega) _ _).1
      · rw [sel_n hf]
        exact Int.le_refl 0
theorem wy_neg {M : Nat → Nat → Prop} {C E : Nat → Nat → Int} (hM : MVt M) (hC : ∀ p f, 0 ≤ C p f ∧ C p f ≤ 297) (hE : ∀ p f, 0 ≤ E p f ∧ E p f ≤ 600) : ∀ (p : Nat) (c e : Int), (c < 0 ∨ e < 0) → wy M C E p c e = 0 := by
  intro p
  induction p using Nat.strongRecOn with
  | ind p ih =>
    intro c e hce
    by_cases h : p = 0
    · subst h
      rw [wy_0, if_neg (by omega)]
    · rw [wy_rec hM (by omega)]
      refine s3_z (fun f h1 h3 => ?_)
      show sel (M p f) (wy M C E (p - f) (c - C p f) (e - E p f)) 0 = 0
      by_cases hf : M p f
      · rw [sel_y hf]
        have a := hC p f
        have b := hE p f
        exact ih (p - f) (by have := hM p f hf; omega) _ _ (by omega)
      · rw [sel_n hf]
theorem wy_op {M : Nat → Nat → Prop} {C E : Nat → Nat → Int} (hM : MVt M) {op : Nat → Prop} (ho : ∀ p f, M p f → op p) (h0 : op 0) {p : Nat} {c e : Int} (h : 0 < wy M C E p c e) : op p := by
  by_cases hp : p = 0
  · rw [hp]; exact h0
  · rw [wy_rec hM (by omega)] at h
    obtain ⟨f, h1, h3, hf⟩ := s3_pos h
    have hf : 0 < sel (M p f) (wy M C E (p - f) (c - C p f) (e - E p f)) 0 := hf
    by_cases hm : M p f
    · exact ho p f hm
    · rw [sel_n hm] at hf
      omega
theorem wy_lu {M : Nat → Nat → Prop} {C E : Nat → Nat → Int} {lp n : Nat} {op : Nat → Prop} {lu : Nat → Int} (hM : MVt M) (ho : ∀ p f, M p f → alw lp op p f) (h0 : op 0) (hu : LUs lp n op E lu) : ∀ (p : Nat), p ≤ n → ∀ c e, 0 < wy M C E p c e → lu 0 ≤ e + lu p := by
  intro p
  induction p using Nat.strongRecOn with
  | ind p ih =>
    intro hp c e h
    by_cases hp0 : p = 0
    · subst hp0
      rw [wy_0] at h
      by_cases q : c = 0 ∧ e = 0
      · omega
      · rw [if_neg q] at h
        omega
    · have oq := wy_op hM (fun p f hm => (ho p f hm).2.2.2) h0 h
      rw [wy_rec hM (by omega)] at h
      obtain ⟨f, h1, h3, hf⟩ := s3_pos h
      have hf : 0 < sel (M p f) (wy M C E (p - f) (c - C p f) (e - E p f)) 0 := hf
      by_cases hm : M p f
      · rw [sel_y hm] at hf
        have a := ho p f hm
        have i := ih (p - f) (by omega) (by omega) _ _ hf
        have l := hu.1 (p - f) f a.1 a.2.1 (by have := a.2.2.1; omega) (wy_op hM (fun p f hm => (ho p f hm).2.2.2) h0 hf) (by rw [show p - f + f = p by have := a.2.2.1; omega]; exact oq)
        rw [show p - f + f = p by have := a.2.2.1; omega] at l
        omega
      · rw [sel_n hm] at hf
        omega
/-! keys with numbers of ways -/
def lo (k : Int) : Int := k % 536870912
def tp (k : Int) : Int := k / 536870912
theorem lo_rng (k : Int) : 0 ≤ lo k ∧ lo k < 536870912 := by
  unfold lo
  omega
theorem tp_eq {k : Int} : tp k = cK k * 4096 + eK k := by
  unfold tp cK eK
  omega
theorem tp_mono {a b : Int} (h : a ≤ b) : tp a ≤ tp b := by
  unfold tp
  omega
theorem tp_one {a b : Int} (h : tp a = tp b) : cK a = cK b ∧ eK a = eK b := by
  unfold tp at h
  unfold cK eK
  omega
theorem tp_add {y x : Int} (h : lo y + lo x < 536870912) : tp (y + lo x) = tp y ∧ lo (y + lo x) = lo y + lo x := by
  unfold lo at h
  unfold tp lo
  omega
def tot : List Int → Int
  | [] => 0
  | k :: l => lo k + tot l
def ms : List Int → Int → Int → Int
  | [], _, _ => 0
  | k :: l, c, e => (if cK k = c ∧ eK k = e then lo k else 0) + ms l c e
theorem tot_app {a b : List Int} : tot (a ++ b) = tot a + tot b := by
  induction a with
  | nil => show tot b = 0 + tot b; omega
  | cons k t ih => show lo k + tot (t ++ b) = lo k + tot t + tot b; omega
theorem ms_app {a b : List Int} {c e : Int} : ms (a ++ b) c e = ms a c e + ms b c e := by
  induction a with
  | nil => show ms b c e = 0 + ms b c e; omega
  | cons k t ih => show (if cK k = c ∧ eK k = e then lo k else 0) + ms (t ++ b) c e = (if cK k = c ∧ eK k = e then lo k else 0) + ms t c e + ms b c e; omega
theorem if_lo {p : Prop} [Decidable p] {k : Int} : 0 ≤ (if p then lo k else 0) ∧ (if p then lo k else 0) ≤ lo k := by
  have := lo_rng k
  split <;> omega
theorem tot_nn {l : List Int} : 0 ≤ tot l := by
  induction l with
  | nil => exact Int.le_refl 0
  | cons k t ih => show 0 ≤ lo k + tot t; have := lo_rng k; omega
theorem ms_rng {l : List Int} {c e : Int} : 0 ≤ ms l c e ∧ ms l c e ≤ tot l := by
  induction l with
  | nil => exact ⟨Int.le_refl 0, Int.le_refl 0⟩
  | cons k t ih =>
    show 0 ≤ (if cK k = c ∧ eK k = e then lo k else 0) + ms t c e ∧ (if cK k = c ∧ eK k = e then lo k else 0) + ms t c e ≤ lo k + tot t
    have := if_lo (p := cK k = c ∧ eK k = e) (k := k)
    omega
theorem tot_mem {l : List Int} {k : Int} (h : k ∈ l) : lo k ≤ tot l := by
  induction l with
  | nil => exact absurd h List.not_mem_nil
  | cons x t ih =>
    show lo k ≤ lo x + tot t
    rcases List.mem_cons.mp h with e | e
    · rw [e]; have := tot_nn (l := t); omega
    · have := ih e; have := lo_rng x; omega
theorem ms_mem {l : List Int} {k : Int} (h : k ∈ l) : lo k ≤ ms l (cK k) (eK k) := by
  induction l with
  | nil => exact absurd h List.not_mem_nil
  | cons x t ih =>
    show lo k ≤ (if cK x = cK k ∧ eK x = eK k then lo x else 0) + ms t (cK k) (eK k)
    rcases List.mem_cons.mp h with e | e
    · rw [e, if_pos ⟨rfl, rfl⟩]; have := (ms_rng (l := t) (c := cK x) (e := eK x)).1; omega
    · have := ih e; have := if_lo (p := cK x = cK k ∧ eK x = eK k) (k := x); omega
theorem ms_none {l : List Int} {c e : Int} (h : ∀ k, k ∈ l → ¬ (cK k = c ∧ eK k = e)) : ms l c e = 0 := by
  induction l with
  | nil => rfl
  | cons x t ih =>
    show (if cK x = c ∧ eK x = e then lo x else 0) + ms t c e = 0
    rw [if_neg (h x List.mem_cons_self), ih (fun k hk => h k (List.mem_cons_of_mem _ hk))]
    rfl
theorem ms_some {l : List Int} {c e : Int} (h : 0 < ms l c e) : ∃ k, k ∈ l ∧ cK k = c ∧ eK k = e := by
  refine Classical.byContradiction (fun q => ?_)
  rw [ms_none (fun k hk he => q ⟨k, hk, he⟩)] at h
  omega
theorem tot_len {l : List Int} (h : ∀ k, k ∈ l → 1 ≤ lo k) : (l.length : Int) ≤ tot l := by
  induction l with
  | nil => exact Int.le_refl 0
  | cons x t ih =>
    have a := ih (fun k hk => h k (List.mem_cons_of_mem _ hk))
    have b := h x List.mem_cons_self
    show ((t.length + 1 : Nat) : Int) ≤ lo x + tot t
    omega
theorem mv_key {k c9 e9 : Int} (hc : 0 ≤ c9) (he : 0 ≤ e9) (h : eK k + e9 ≤ 4095) : cK (k + (c9 * 2199023255552 + e9 * 536870912)) = cK k + c9 ∧ eK (k + (c9 * 2199023255552 + e9 * 536870912)) = eK k + e9 ∧ lo (k + (c9 * 2199023255552 + e9 * 536870912)) = lo k := by
  unfold eK at h
  unfold cK eK lo
  omega
theorem ms_map {l : List Int} {c9 e9 c e : Int} (hc : 0 ≤ c9) (he : 0 ≤ e9) (h : ∀ k, k ∈ l → eK k + e9 ≤ 4095) : ms (l.map (fun x => x + (c9 * 2199023255552 + e9 * 536870912))) c e = ms l (c - c9) (e - e9) := by
  induction l with
  | nil => rfl
  | cons x t ih =>
    obtain ⟨a, b, d⟩ := mv_key hc he (h x List.mem_cons_self)
    show (if cK (x + (c9 * 2199023255552 + e9 * 536870912)) = c ∧ eK (x + (c9 * 2199023255552 + e9 * 536870912)) = e then lo (x + (c9 * 2199023255552 + e9 * 536870912)) else 0) + ms (t.map (fun x => x + (c9 * 2199023255552 + e9 * 536870912))) c e = (if cK x = c - c9 ∧ eK x = e - e9 then lo x else 0) + ms t (c - c9) (e - e9)
    rw [ih (fun k hk => h k (List.mem_cons_of_mem _ hk)), a, b, d]
    by_cases q : cK x = c - c9 ∧ eK x = e - e9
    · rw [if_pos q, if_pos (by omega)]
    · rw [if_neg q, if_neg (by omega)]
theorem tot_map {l : List Int} {c9 e9 : Int} (hc : 0 ≤ c9) (he : 0 ≤ e9) (h : ∀ k, k ∈ l → eK k + e9 ≤ 4095) : tot (l.map (fun x => x + (c9 * 2199023255552 + e9 * 536870912))) = tot l := by
  induction l with
  | nil => rfl
  | cons x t ih =>
    obtain ⟨a, b, d⟩ := mv_key hc he (h x List.mem_cons_self)
    show lo (x + (c9 * 2199023255552 + e9 * 536870912)) + tot (t.map (fun x => x + (c9 * 2199023255552 + e9 * 536870912))) = lo x + tot t
    rw [ih (fun k hk => h k (List.mem_cons_of_mem _ hk)), d]
theorem inc_len : ∀ (l : List Int) (a b : Int), a ≤ b → l.Pairwise (· < ·) → (∀ k, k ∈ l → a ≤ k ∧ k < b) → (l.length : Int) ≤ b - a := by
  intro l
  induction l with
  | nil => intro a b h _ _; show (0 : Int) ≤ b - a; omega
  | cons x t ih =>
    intro a b h hp hk
    obtain ⟨h1, h2⟩ := List.pairwise_cons.mp hp
    have hx := hk x List.mem_cons_self
    have := ih (x + 1) b (by omega) h2 (fun k hk' => ⟨by have := h1 k hk'; omega, (hk k (List.mem_cons_of_mem _ hk')).2⟩)
    show ((t.length + 1 : Nat) : Int) ≤ b - a
    omega
theorem tp_len {l : List Int} (hp : l.Pairwise (fun a b => tp a < tp b)) (hk : ∀ k, k ∈ l → 0 ≤ k ∧ cK k ≤ 999 ∧ eK k ≤ 120) : l.length ≤ 121000 := by
  have p1 : l.Pairwise (fun a b => cK a * 121 + eK a < cK b * 121 + eK b) := List.Pairwise.imp_of_mem (fun {a b} ha hb q => by
    have q : tp a < tp b := q
    rw [tp_eq, tp_eq] at q
    have ra := eK_rng a
    have rb := eK_rng b
    have ba := hk a ha
    have bb := hk b hb
    omega) hp
  have h := inc_len (l.map (fun k => cK k * 121 + eK k)) 0 121000 (by decide) (List.pairwise_map.mpr p1) (fun y hy => by
    obtain ⟨k, hk', e⟩ := List.mem_map.mp hy
    obtain ⟨a, b, c⟩ := hk k hk'
    have r := eK_rng k
    have e : cK k * 121 + eK k = y := e
    have d : 0 ≤ cK k := by unfold cK; omega
    omega)
  rw [List.length_map] at h
  omega
/-! what is merged and summed -/
def sS (g : Nat → Int) : Int := g 0 + g 1 + g 2
def TI (adm : Int → Int → Prop) (Wt : Int → Int → Int) (B : Int) (acc : List Int) (S : Nat → List Int) : Prop := (∀ k, k ∈ acc → 0 ≤ k ∧ adm (cK k) (eK k) ∧ 1 ≤ lo k) ∧ acc.Pairwise (fun a b => tp a < tp b) ∧ (∀ y i x, y ∈ acc → x ∈ S i → tp y ≤ tp x) ∧ (∀ c e, 0 ≤ c → 0 ≤ e → adm c e → ms acc c e + sS (fun i => ms (S i) c e) = Wt c e) ∧ tot acc + sS (fun i => tot (S i)) ≤ B
def TF (adm : Int → Int → Prop) (Wt : Int → Int → Int) (B : Int) (acc : List Int) : Prop := (∀ k, k ∈ acc → 0 ≤ k ∧ adm (cK k) (eK k) ∧ 1 ≤ lo k) ∧ acc.Pairwise (fun a b => tp a < tp b) ∧ (∀ c e, 0 ≤ c → 0 ≤ e → adm c e → ms acc c e = Wt c e) ∧ tot acc ≤ B
theorem hd_cons {S : Nat → List Int} {w : Nat} (h : (S w).length ≠ 0) : S w = hdB (S w) :: tkS S w w := by
  have e : tkS S w w = (S w).tail := if_pos rfl
  rw [e]
  match hl : S w with
  | [] => rw [hl] at h; exact absurd rfl h
  | x :: t => rfl
theorem sS_tk {S : Nat → List Int} {w : Nat} {F : List Int → Int} {d : Int} (hw : w < 3) (h : F (S w) = d + F (tkS S w w)) : sS (fun i => F (S i)) = d + sS (fun i => F (tkS S w i)) := by
  have o : ∀ i, i ≠ w → tkS S w i = S i := fun i hi => if_neg hi
  show F (S 0) + F (S 1) + F (S 2) = d + (F (tkS S w 0) + F (tkS S w 1) + F (tkS S w 2))
  rcases (show w = 0 ∨ w = 1 ∨ w = 2 by omega) with e | e | e
  · subst e
    rw [o 1 (by decide), o 2 (by decide), h]; omega
  · subst e
    rw [o 0 (by decide), o 2 (by decide), h]; omega
  · subst e
    rw [o 0 (by decide), o 1 (by decide), h]; omega
theorem tk_ms {S : Nat → List Int} {w : Nat} (hw : w < 3) (h : (S w).length ≠ 0) (c e : Int) : sS (fun i => ms (S i) c e) = (if cK (hdB (S w)) = c ∧ eK (hdB (S w)) = e then lo (hdB (S w)) else 0) + sS (fun i => ms (tkS S w i) c e) :=
  sS_tk (F := fun l => ms l c e) hw (by
    show ms (S w) c e = _
    conv => lhs; rw [hd_cons h]
    rfl)
theorem tk_tot {S : Nat → List Int} {w : Nat} (hw : w < 3) (h : (S w).length ≠ 0) : sS (fun i => tot (S i)) = lo (hdB (S w)) + sS (fun i => tot (tkS S w i)) :=
  sS_tk (F := tot) hw (by
    conv => lhs; rw [hd_cons h]
    rfl)
theorem sS_nn {S : Nat → List Int} : 0 ≤ sS (fun i => tot (S i)) := by
  have a := tot_nn (l := S 0)
  have b := tot_nn (l := S 1)
  have c := tot_nn (l := S 2)
  show 0 ≤ tot (S 0) + tot (S 1) + tot (S 2)
  omega
theorem TI_drop {adm : Int → Int → Prop} {Wt : Int → Int → Int} {B : Int} {acc : List Int} {S : Nat → List Int} {w : Nat} (h : TI adm Wt B acc S) (hw : w < 3) (hne : (S w).length ≠ 0) (hn : ¬ adm (cK (hdB (S w))) (eK (hdB (S w)))) : TI adm Wt B acc (tkS S w) := by
  obtain ⟨h1, h2, h3, h4, h5⟩ := h
  refine ⟨h1, h2, fun y i x hy hx => h3 y i x hy (tk_mem hx), fun c e hc he ha => ?_, ?_⟩
  · have := h4 c e hc he ha
    rw [tk_ms hw hne, if_neg (fun q => hn (by rw [q.1, q.2]; exact ha))] at this
    omega
  · rw [tk_tot hw hne] at h5
    have := lo_rng (hdB (S w))
    omega
/-- a key comes behind those summed -/
def ADD (acc : List Int) (x : Int) (acc' : List Int) : Prop := (acc = [] ∧ acc' = [x]) ∨ ∃ p y, acc = p ++ [y] ∧ ((tp y = tp x ∧ acc' = p ++ [y + lo x]) ∨ (¬ tp y = tp x ∧ acc' = p ++ [y] ++ [x]))
theorem TI_add {adm : Int → Int → Prop} {Wt : Int → Int → Int} {B : Int} {acc acc' : List Int} {S : Nat → List Int} {w : Nat} (hB : B < 536870912) (h : TI adm Wt B acc S) (hw : w < 3) (hne : (S w).length ≠ 0) (hx0 : 0 ≤ hdB (S w)) (ha : adm (cK (hdB (S w))) (eK (hdB (S w)))) (hl : 1 ≤ lo (hdB (S w))) (hmin : ∀ i z, z ∈ S i → hdB (S w) ≤ z) (hA : ADD acc (hdB (S w)) acc') : TI adm Wt B acc' (tkS S w) := by
  obtain ⟨h1, h2, h3, h4, h5⟩ := h
  have hm := hd_mem hne
  have eM := tk_ms hw hne
  have eT := tk_tot hw hne
  have mn : ∀ i z, z ∈ tkS S w i → tp (hdB (S w)) ≤ tp z := fun i z hz => tp_mono (hmin i z (tk_mem hz))
  have le : ∀ y, y ∈ acc → tp y ≤ tp (hdB (S w)) := fun y hy => h3 y w _ hy hm
  have nn := sS_nn (S := tkS S w)
  have tkm : ∀ i z, z ∈ tkS S w i → z ∈ S i := fun i z hz => tk_mem hz
  generalize hdB (S w) = x at hx0 ha hl hA eM eT mn le
  rcases hA with ⟨e1, e2⟩ | ⟨p, y, e1, ⟨et, e2⟩ | ⟨et, e2⟩⟩
  · subst e1; subst e2
    refine ⟨fun k hk => ?_, List.pairwise_singleton _ _, fun y i z hy hz => ?_, fun c e hc he hq => ?_, ?_⟩
    · rw [List.mem_singleton.mp hk]; exact ⟨hx0, ha, hl⟩
    · rw [List.mem_singleton.mp hy]; exact mn i z hz
    · have := h4 c e hc he hq
      rw [eM c e] at this
      have t0 : ms [] c e = 0 := rfl
      have t1 : ms [x] c e = (if cK x = c ∧ eK x = e then lo x else 0) + 0 := rfl
      omega
    · have t0 : tot [] = 0 := rfl
      have t1 : tot [x] = lo x + 0 := rfl
      omega
  · subst e1; subst e2
    have my : y ∈ p ++ [y] := List.mem_append_right _ List.mem_cons_self
    have ty : tot (p ++ [y]) = tot p + (lo y + 0) := tot_app
    have tp0 := tot_nn (l := p)
    obtain ⟨a1, a2⟩ := tp_add (y := y) (x := x) (by omega)
    obtain ⟨b1, b2⟩ := tp_one a1
    obtain ⟨c1, c2⟩ := tp_one et
    have hy := h1 y my
    obtain ⟨q1, q2, q3⟩ := List.pairwise_append.mp h2
    refine ⟨fun k hk => ?_, List.pairwise_append.mpr ⟨q1, List.pairwise_singleton _ _, fun k hk z hz => ?_⟩, fun k i z hk hz => ?_, fun c e hc he hq => ?_, ?_⟩
    · rcases List.mem_append.mp hk with q | q
      · exact h1 k (List.mem_append_left _ q)
      · rw [List.mem_singleton.mp q, a2, b1, b2]
        exact ⟨by omega, hy.2.1, by omega⟩
    · rw [List.mem_singleton.mp hz, a1]
      exact q3 k hk y List.mem_cons_self
    · rcases List.mem_append.mp hk with q | q
      · exact h3 k i z (List.mem_append_left _ q) (tkm i z hz)
      · rw [List.mem_singleton.mp q, a1]
        exact h3 y i z my (tkm i z hz)
    · have t := h4 c e hc he hq
      rw [eM c e] at t
      have t0 : ms (p ++ [y]) c e = ms p c e + ((if cK y = c ∧ eK y = e then lo y else 0) + 0) := ms_app
      have t1 : ms (p ++ [y + lo x]) c e = ms p c e + ((if cK (y + lo x) = c ∧ eK (y + lo x) = e then lo (y + lo x) else 0) + 0) := ms_app
      rw [b1, b2, a2] at t1
      rw [← c1, ← c2] at t
      by_cases q : cK y = c ∧ eK y = e
      · rw [if_pos q] at t t0 t1
        omega
      · rw [if_neg q] at t t0 t1
        omega
    · have t1 : tot (p ++ [y + lo x]) = tot p + (lo (y + lo x) + 0) := tot_app
      rw [a2] at t1
      omega
  · subst e1; subst e2
    have my : y ∈ p ++ [y] := List.mem_append_right _ List.mem_cons_self
    obtain ⟨q1, q2, q3⟩ := List.pairwise_append.mp h2
    refine ⟨fun k hk => ?_, List.pairwise_append.mpr ⟨h2, List.pairwise_singleton _ _, fun k hk z hz => ?_⟩, fun k i z hk hz => ?_, fun c e hc he hq => ?_, ?_⟩
    · rcases List.mem_append.mp hk with q | q
      · exact h1 k q
      · rw [List.mem_singleton.mp q]; exact ⟨hx0, ha, hl⟩
    · rw [List.mem_singleton.mp hz]
      have ly := le y my
      rcases List.mem_append.mp hk with q | q
      · have := q3 k q y List.mem_cons_self
        show tp k < tp x
        have this : tp k < tp y := this
        omega
      · rw [List.mem_singleton.mp q]
        show tp y < tp x
        omega
    · rcases List.mem_append.mp hk with q | q
      · exact h3 k i z q (tkm i z hz)
      · rw [List.mem_singleton.mp q]; exact mn i z hz
    · have t := h4 c e hc he hq
      rw [eM c e] at t
      have t1 : ms (p ++ [y] ++ [x]) c e = ms (p ++ [y]) c e + ((if cK x = c ∧ eK x = e then lo x else 0) + 0) := ms_app
      omega
    · have t1 : tot (p ++ [y] ++ [x]) = tot (p ++ [y]) + (lo x + 0) := tot_app
      omega
/-- nothing more that can be is left -/
theorem TI_end {adm : Int → Int → Prop} {Wt : Int → Int → Int} {B : Int} {acc : List Int} {S : Nat → List Int} (h : TI adm Wt B acc S) (hn : ∀ i z, z ∈ S i → ¬ adm (cK z) (eK z)) : TF adm Wt B acc := by
  obtain ⟨h1, h2, h3, h4, h5⟩ := h
  refine ⟨h1, h2, fun c e hc he ha => ?_, ?_⟩
  · have t := h4 c e hc he ha
    have z : ∀ i, ms (S i) c e = 0 := fun i => ms_none (fun k hk q => hn i k hk (by rw [q.1, q.2]; exact ha))
    have s : sS (fun i => ms (S i) c e) = ms (S 0) c e + ms (S 1) c e + ms (S 2) c e := rfl
    rw [z 0, z 1, z 2] at s
    omega
  · have := sS_nn (S := S)
    omega
/-- what can be at a place: within KNEES, COST, and what the rest can cost -/
def admR (K cost : Int) (lu : Nat → Int) (RC : Nat → Int → Prop) (q : Nat) (c e : Int) : Prop := (q = 0 ∧ c ≤ 999 ∧ e ≤ 120) ∨ (1 ≤ q ∧ e ≤ K - lu q ∧ c ≤ cost ∧ RC q (cost - c))
def TRw (M : Nat → Nat → Prop) (C E : Nat → Nat → Int) (K cost : Int) (lu : Nat → Int) (RC : Nat → Int → Prop) (q : Nat) (l : List Int) : Prop := TF (admR K cost lu RC q) (wy M C E q) (tb q) l
theorem TRw_0 {M : Nat → Nat → Prop} {C E : Nat → Nat → Int} {K cost : Int} {lu : Nat → Int} {RC : Nat → Int → Prop} : TRw M C E K cost lu RC 0 [1] := by
  refine ⟨fun k hk => ?_, List.pairwise_singleton _ _, fun c e hc he ha => ?_, by decide⟩
  · rw [List.mem_singleton.mp hk]
    exact ⟨by decide, Or.inl ⟨rfl, by decide, by decide⟩, by decide⟩
  · rw [wy_0]
    show (if (0 : Int) = c ∧ (0 : Int) = e then (1 : Int) else 0) + 0 = _
    by_cases q : c = 0 ∧ e = 0
    · rw [if_pos q, if_pos ⟨q.1.symm, q.2.symm⟩]
      rfl
    · rw [if_neg q, if_neg (fun r => q ⟨r.1.symm, r.2.symm⟩)]
      rfl
theorem TRw_rng {M : Nat → Nat → Prop} {C E : Nat → Nat → Int} {K cost : Int} {lu : Nat → Int} {RC : Nat → Int → Prop} {q : Nat} {l : List Int} (hK : K ≤ 120) (hc : cost ≤ 999) (h0 : ∀ q, 0 ≤ lu q) (h : TRw M C E K cost lu RC q l) : ∀ k, k ∈ l → 0 ≤ k ∧ cK k ≤ 999 ∧ eK k ≤ 120 := by
  intro k hk
  obtain ⟨a, b, -⟩ := h.1 k hk
  have := h0 q
  rcases b with ⟨-, b1, b2⟩ | ⟨-, b1, b2, -⟩ <;> omega
/-- the rows a place is come to from, fed -/
def SRm (M : Nat → Nat → Prop) (C E : Nat → Nat → Int) (R : Nat → List Int) (p : Nat) (S : Nat → List Int) : Prop := (∀ c e, sS (fun i => ms (S i) c e) = s3 (fun f => sel (M p f) (ms (R (p - f)) (c - C p f) (e - E p f)) 0)) ∧ sS (fun i => tot (S i)) = s3 (fun f => sel (M p f) (tot (R (p - f))) 0)
/-- closed downwards -/
def RCd (lp n : Nat) (op : Nat → Prop) (C : Nat → Nat → Int) (RC : Nat → Int → Prop) : Prop := (∀ q f r, 1 ≤ f → f ≤ lp → q + f ≤ n → op (q + f) → 0 ≤ r → RC (q + f) r → r + C (q + f) f ≤ 999 → RC q (r + C (q + f) f)) ∧ ∀ r, RC n r ↔ r = 0
theorem TR_step {M : Nat → Nat → Prop} {C E : Nat → Nat → Int} {K cost : Int} {lu : Nat → Int} {RC : Nat → Int → Prop} {lp n : Nat} {op : Nat → Prop} {R : Nat → List Int} {p : Nat} {S : Nat → List Int} (hM : ∀ p f, M p f → alw lp op p f) (h0 : op 0) (hC : ∀ p f, 0 ≤ C p f ∧ C p f ≤ 297) (hE : ∀ p f, 0 ≤ E p f ∧ E p f ≤ 600) (hu : LUs lp n op E lu) (hr : RCd lp n op C RC) (hK : K ≤ 120) (hc9 : 0 ≤ cost ∧ cost ≤ 999) (hp : 1 ≤ p) (hpn : p ≤ n) (hn : n ≤ 24) (hR : ∀ q, q < p → TRw M C E K cost lu RC q (R q)) (hs : SRm M C E R p S) : TI (admR K cost lu RC p) (wy M C E p) (tb p) [] S := by
  have hV : MVt M := fun p f h => by have := hM p f h; unfold alw at this; omega
  have hO : ∀ p f, M p f → op p := fun p f h => (hM p f h).2.2.2
  refine ⟨fun k hk => absurd hk List.not_mem_nil, List.Pairwise.nil, fun y i x hy => absurd hy List.not_mem_nil, fun c e hc he ha => ?_, ?_⟩
  · show 0 + sS (fun i => ms (S i) c e) = _
    rw [Int.zero_add, hs.1, wy_rec hV hp]
    refine s3_cg (fun f h1 h3 => ?_)
    show sel (M p f) (ms (R (p - f)) (c - C p f) (e - E p f)) 0 = sel (M p f) (wy M C E (p - f) (c - C p f) (e - E p f)) 0
    by_cases hm : M p f
    · rw [sel_y hm, sel_y hm]
      obtain ⟨a1, a2, a3, a4⟩ := hM p f hm
      obtain ⟨r1, r2, r3, r4⟩ := hR (p - f) (by omega)
      have c9 := hC p f
      have e9 := hE p f
      by_cases neg : c - C p f < 0 ∨ e - E p f < 0
      · rw [wy_neg hV hC hE _ _ _ neg]
        refine ms_none (fun k hk q => ?_)
        have k0 := (r1 k hk).1
        have := eK_rng k
        have : 0 ≤ cK k := by unfold cK; omega
        omega
      · by_cases oq : op (p - f)
        · refine r3 _ _ (by omega) (by omega) ?_
          have u0 := hu.2.2 (p - f)
          have u1 := hu.2.2 p
          have l := hu.1 (p - f) f a1 a2 (by omega) oq (by rw [show p - f + f = p by omega]; exact a4)
          rw [show p - f + f = p by omega] at l
          rcases ha with ⟨q, -⟩ | ⟨-, b1, b2, b3⟩
          · omega
          by_cases z : p - f = 0
          · exact Or.inl ⟨z, by omega, by omega⟩
          · refine Or.inr ⟨by omega, by omega, by omega, ?_⟩
            have t := hr.1 (p - f) f (cost - c) a1 a2 (by omega) (by rw [show p - f + f = p by omega]; exact a4) (by omega) (by rw [show p - f + f = p by omega]; exact b3) (by rw [show p - f + f = p by omega]; omega)
            rw [show p - f + f = p by omega] at t
            rw [show cost - (c - C p f) = cost - c + C p f by omega]
            exact t
        · have w0 : ∀ c' e', wy M C E (p - f) c' e' = 0 := fun c' e' => by
            have g := (wy_rng (C := C) (E := E) hV (p - f) (by omega) c' e').1
            by_cases q : 0 < wy M C E (p - f) c' e'
            · exact absurd (wy_op hV hO h0 q) oq
            · omega
          rw [w0]
          refine ms_none (fun k hk _ => ?_)
          obtain ⟨k0, ka, kl⟩ := r1 k hk
          have t := r3 (cK k) (eK k) (by unfold cK; omega) (eK_rng k).1 ka
          rw [w0] at t
          have := ms_mem hk
          omega
    · rw [sel_n hm, sel_n hm]
  · show 0 + sS (fun i => tot (S i)) ≤ _
    rw [Int.zero_add, hs.2]
    exact s3_tb hV hp (by omega) (fun f hm => (hR (p - f) (by have := hV p f hm; omega)).2.2.2)
/-- climbs that cost just so much: there are some -/
def TLs (M : Nat → Nat → Prop) (C E : Nat → Nat → Int) (n : Nat) (K P cost : Int) : Prop := cost ≤ P ∧ ∃ e, 0 ≤ e ∧ e ≤ K ∧ 0 < wy M C E n cost e
theorem TR_top {M : Nat → Nat → Prop} {C E : Nat → Nat → Int} {K cost : Int} {lu : Nat → Int} {RC : Nat → Int → Prop} {lp n : Nat} {op : Nat → Prop} {l : List Int} (hM : ∀ p f, M p f → alw lp op p f) (h0 : op 0) (hu : LUs lp n op E lu) (hr : RCd lp n op C RC) (hc9 : 0 ≤ cost) (hn1 : 1 ≤ n) (h : TRw M C E K cost lu RC n l) : 0 < tot l ↔ ∃ e, 0 ≤ e ∧ e ≤ K ∧ 0 < wy M C E n cost e := by
  have hV : MVt M := fun p f h => by have := hM p f h; unfold alw at this; omega
  have hO : ∀ p f, M p f → op p := fun p f h => (hM p f h).2.2.2
  obtain ⟨r1, r2, r3, r4⟩ := h
  constructor
  · intro hp
    obtain ⟨k, hk⟩ : ∃ k, k ∈ l := by
      match l, hp with
      | [], hp => exact absurd hp (by decide)
      | k :: t, _ => exact ⟨k, List.mem_cons_self⟩
    obtain ⟨k0, ka, kl⟩ := r1 k hk
    have t := r3 (cK k) (eK k) (by unfold cK; omega) (eK_rng k).1 ka
    have m := ms_mem hk
    have w : 0 < wy M C E n (cK k) (eK k) := by omega
    have on := wy_op hV hO h0 w
    rcases ka with ⟨q, -⟩ | ⟨-, b1, b2, b3⟩
    · omega
    have z := (hr.2 _).mp b3
    have ln := hu.2.1 on
    rw [show cK k = cost by omega] at w
    exact ⟨eK k, (eK_rng k).1, by omega, w⟩
  · rintro ⟨e, e0, eK9, w⟩
    have on := wy_op hV hO h0 w
    have ln := hu.2.1 on
    have t := r3 cost e hc9 e0 (Or.inr ⟨hn1, by omega, Int.le_refl _, (hr.2 _).mpr (by omega)⟩)
    have := (ms_rng (l := l) (c := cost) (e := e)).2
    omega
/-! ===== what the rest of a climb can cost: bits ===== -/
def bt (x : Int64) (i : Nat) : Bool := x.toBitVec.getLsbD i
theorem bt_or {x y : Int64} {i : Nat} : bt (x ||| y) i = (bt x i || bt y i) := by
  unfold bt
  rw [Int64.toBitVec_or, BitVec.getLsbD_or]
theorem bt_shl {x : Int64} {v : Int32} {b i : Nat} (e : v.toInt = (b : Int)) (hb : b < 64) (hi : i < 64) : bt (x <<< (v.toInt64 &&& 63)) i = (decide (b ≤ i) && bt x (i - b)) := by
  have hv : v = Int32.ofInt (b : Int) := by rw [← e, Int32.ofInt_toInt]
  have key : ∀ q : Fin 64, (((Int32.ofInt ((q.val : Nat) : Int)).toInt64 &&& 63).toBitVec.smod 64).toNat = q.val := by decide +kernel
  have g : (((Int32.ofInt (b : Int)).toInt64 &&& 63).toBitVec.smod 64).toNat = b := key ⟨b, hb⟩
  unfold bt
  rw [Int64.toBitVec_shiftLeft, BitVec.getLsbD_shiftLeft', hv, g, decide_eq_true hi, Bool.true_and]
  by_cases c : b ≤ i
  · rw [decide_eq_true c, decide_eq_false (show ¬ i < b by omega)]
    rfl
  · rw [decide_eq_false c, decide_eq_true (show i < b by omega)]
    rfl
theorem bt_shr {x : Int64} {v : Int32} {b i : Nat} (e : v.toInt = (b : Int)) (hb : b < 64) : bt ((x.toUInt64 >>> (v.toInt64.toUInt64 &&& Int64.toUInt64 63)).toInt64) i = bt x (b + i) := by
  have hv : v = Int32.ofInt (b : Int) := by rw [← e, Int32.ofInt_toInt]
  have key : ∀ q : Fin 64, ((((Int32.ofInt ((q.val : Nat) : Int)).toInt64.toUInt64 &&& Int64.toUInt64 63) % 64).toBitVec).toNat = q.val := by decide +kernel
  have g : ((((Int32.ofInt (b : Int)).toInt64.toUInt64 &&& Int64.toUInt64 63) % 64).toBitVec).toNat = b := key ⟨b, hb⟩
  have e1 : ((x.toUInt64 >>> (v.toInt64.toUInt64 &&& Int64.toUInt64 63)).toInt64).toBitVec = x.toBitVec >>> ((v.toInt64.toUInt64 &&& Int64.toUInt64 63) % 64).toBitVec := rfl
  unfold bt
  rw [e1, BitVec.ushiftRight_eq', BitVec.getLsbD_ushiftRight, hv, g]
theorem bt_and1 {y : Int64} : (y &&& (1 : Int64)) = 0 ↔ bt y 0 = false := by
  have one : ∀ q : Fin 64, (1 : Int64).toBitVec.getLsbD q.val = decide (q.val = 0) := by decide +kernel
  have zer : ∀ q : Fin 64, (0 : Int64).toBitVec.getLsbD q.val = false := by decide +kernel
  constructor
  · intro h
    have e : (y &&& (1 : Int64)).toBitVec.getLsbD 0 = (0 : Int64).toBitVec.getLsbD 0 := by rw [h]
    rw [Int64.toBitVec_and, BitVec.getLsbD_and, one ⟨0, by decide⟩, zer ⟨0, by decide⟩] at e
    unfold bt
    rw [Bool.and_eq_false_iff] at e
    rcases e with e | e
    · exact e
    · exact absurd e (by decide)
  · intro h
    apply Int64.toBitVec_inj.mp
    refine BitVec.eq_of_getLsbD_eq (fun i hi => ?_)
    rw [Int64.toBitVec_and, BitVec.getLsbD_and, zer ⟨i, hi⟩, one ⟨i, hi⟩]
    by_cases c : i = 0
    · subst c
      unfold bt at h
      rw [h]
      rfl
    · rw [decide_eq_false c, Bool.and_false]
def rb (f : Nat → Int64) (q c : Nat) : Prop := bt (f (16 * q + c / 64)) (c % 64) = true
theorem i_mod64 {v : Int32} {r : Nat} (e : v.toInt = (r : Int)) (hr : r ≤ 100000) : (v / (64 : Int32)).toInt = ((r / 64 : Nat) : Int) ∧ (v - v / (64 : Int32) * (64 : Int32)).toInt = ((r % 64 : Nat) : Int) := by
  have z : (64 : Int32).toInt = 64 := rfl
  have d : (v / (64 : Int32)).toInt = ((r / 64 : Nat) : Int) := (i_div e z (by omega) (by decide)).trans (by omega)
  exact ⟨d, (i_sub e (i_mul d z (by omega) (by omega)) (by omega) (by omega)).trans (by omega)⟩
theorem r_X0_isInReach {Z : jZ} {I : jI} {L : jL} (v0 uR : Nat) (hR : jr Z v0 1 = some uR) (v1 v2 : Int32) (q r : Nat) (e1 : v1.toInt = (q : Int)) (hq : q ≤ 24) (e2 : v2.toInt = (r : Int)) (hr : r ≤ 1023) {Q : Int32 → jI → jL → Prop} (hQ : ∀ x : Int32, (¬ x = 0 ∧ rb (L uR) q r) ∨ (x = 0 ∧ ¬ rb (L uR) q r) → Q x I L) : f_X0_isInReach v0 v1 v2 Z I L Q := by
  obtain ⟨m1, m2⟩ := i_mod64 e2 (by omega)
  have z16 : (16 : Int32).toInt = 16 := rfl
  unfold f_X0_isInReach
  intro x1 ex
  rw [← ex] at m1
  refine ⟨fun c => absurd ((i_le z16 m1).mp c) (by omega), fun _ => ?_⟩
  intro b hb; cases hR.symm.trans hb
  have t : ((v1 * (16 : Int32)) + x1).toInt = ((16 * q + r / 64 : Nat) : Int) := (i_add (i_mul e1 z16 (by omega) (by omega)) m1 (by omega) (by omega)).trans (by omega)
  have tn : ((v1 * (16 : Int32)) + x1).toNatClampNeg = 16 * q + r / 64 := by have := i_nat t (by omega); omega
  refine ⟨vi_of t (by omega) (by omega), ?_⟩
  rw [tn, ex] at *
  have bs := bt_shr (x := L uR (16 * q + r / 64)) (i := 0) m2 (by omega)
  rw [Nat.add_zero] at bs
  refine ⟨fun c => hQ _ (Or.inr ⟨rfl, fun h => ?_⟩), fun c => hQ _ (Or.inl ⟨by decide, ?_⟩)⟩
  · have c := bt_and1.mp ((lg_cmp_eq _ _).mp c)
    rw [bs] at c
    unfold rb at h
    rw [h] at c
    cases c
  · have c := fun h => c ((lg_cmp_eq _ _).mpr (bt_and1.mpr h))
    rw [bs] at c
    unfold rb
    cases hh : bt (L uR (16 * q + r / 64)) (r % 64) with
    | true => rfl
    | false => exact absurd hh c
/-- what a move of just so much cost brings into reach: words and bits -/
def MVD (f : Nat → Int64) (b ws bs j t : Nat) : Prop := (bs ≤ t ∧ bt (f (16 * b + (j - ws))) (t - bs) = true) ∨ (ws < j ∧ t < bs ∧ bt (f (16 * b + (j - ws - 1))) (64 - bs + t) = true)
theorem ar_L16 {Z : jZ} {I : jI} {L0 : jL} (v0 uR : Nat) (hR : jr Z v0 1 = some uR) (v1 v2 v4 v5 : Int32) (a b ws bs : Nat) (e1 : v1.toInt = (a : Int)) (ha : a ≤ 24) (e2 : v2.toInt = (b : Int)) (hb : b ≤ 24) (hab : a ≠ b) (e4 : v4.toInt = (ws : Int)) (hw : ws ≤ 15) (e5 : v5.toInt = (bs : Int)) (hbs : bs < 64) {Q : jI → jL → Prop}
    (hQ : ∀ L' : jL, (∀ x, x ≠ uR → L' x = L0 x) → (∀ j, ¬ (16 * a ≤ j ∧ j < 16 * a + 16) → L' uR j = L0 uR j) → (∀ j t, j < 16 → bt (L0 uR (16 * a + j)) t = true → bt (L' uR (16 * a + j)) t = true) → (∀ j t, ws ≤ j → j < 16 → t < 64 → MVD (L0 uR) b ws bs j t → bt (L' uR (16 * a + j)) t = true) → Q I L') :
    ∀ (n i : Nat) (v6 : Int32) (L : jL), i ≤ 16 → ws ≤ i → i + 1 ≤ n → v6.toInt = (i : Int) - 1 → (∀ x, x ≠ uR → L x = L0 x) → (∀ j, ¬ (16 * a ≤ j ∧ j < 16 * a + 16) → L uR j = L0 uR j) → (∀ j t, j < 16 → bt (L0 uR (16 * a + j)) t = true → bt (L uR (16 * a + j)) t = true) → (∀ j t, i ≤ j → j < 16 → t < 64 → MVD (L0 uR) b ws bs j t → bt (L uR (16 * a + j)) t = true) → f_X0_addReach_L16 Z Q n v0 v1 v2 v4 v5 v6 I L := by
  have z0 : (0 : Int32).toInt = 0 := rfl
  have z1 : (1 : Int32).toInt = 1 := rfl
  have z16 : (16 : Int32).toInt = 16 := rfl
  have z64 : (64 : Int32).toInt = 64 := rfl
  have zm : (-1 : Int32).toInt = -1 := by decide
  intro n
  induction n with
  | zero => intro i v6 L hi hwi hn; omega
  | succ n ih =>
    intro i v6 L hi hwi hn e6 ho hs hm hp
    unfold f_X0_addReach_L16
    refine ⟨fun c => ?_, fun c => ⟨fun c0 => ?_, fun c0 => ?_⟩⟩
    · have c := (i_lt e6 e4).mp c
      exact hQ L ho hs hm (fun j t h1 h2 h3 h => hp j t (by omega) h2 h3 h)
    · have c0 := (i_lt e6 z0).mp c0
      exact hQ L ho hs hm (fun j t h1 h2 h3 h => hp j t (by omega) h2 h3 h)
    have c := (not_congr (i_lt e6 e4)).mp c
    obtain ⟨k, rfl⟩ : ∃ k, i = k + 1 := ⟨i - 1, by omega⟩
    have e6 : v6.toInt = (k : Int) := by omega
    have t1 : (((v2 * (16 : Int32)) + v6) - v4).toInt = ((16 * b + (k - ws) : Nat) : Int) := (i_sub (i_add (i_mul e2 z16 (by omega) (by omega)) e6 (by omega) (by omega)) e4 (by omega) (by omega)).trans (by omega)
    have n1 : (((v2 * (16 : Int32)) + v6) - v4).toNatClampNeg = 16 * b + (k - ws) := by have := i_nat t1 (by omega); omega
    intro b8 hb8; cases hR.symm.trans hb8
    refine ⟨vi_of t1 (by omega) (by omega), fun x10 e10 => ?_⟩
    rw [n1, hs (16 * b + (k - ws)) (by omega)] at e10
    have last : ∀ x : Int64, (∀ t, t < 64 → MVD (L0 uR) b ws bs k t → bt x t = true) → f_X0_addReach_b88 (f_X0_addReach_L16 Z Q n) Z Q v0 v1 v2 v4 v5 v6 x I L := fun x hx => by
      have t9 : ((v1 * (16 : Int32)) + v6).toInt = ((16 * a + k : Nat) : Int) := (i_add (i_mul e1 z16 (by omega) (by omega)) e6 (by omega) (by omega)).trans (by omega)
      have n9 : ((v1 * (16 : Int32)) + v6).toNatClampNeg = 16 * a + k := by have := i_nat t9 (by omega); omega
      unfold f_X0_addReach_b88
      intro b1 hb1; cases hR.symm.trans hb1
      refine ⟨vi_of t9 (by omega) (by omega), vi_of t9 (by omega) (by omega), fun L4 q4 x5 ex5 => ?_⟩
      rw [n9] at q4
      have o4 : ∀ y, y ≠ uR → L4 y = L y := fun y hy => by rw [q4, jpL_ne hy]
      have s4 : ∀ j, j ≠ 16 * a + k → L4 uR j = L uR j := fun j hj => by rw [q4, jpL_off hj]
      have w4 : L4 uR (16 * a + k) = L uR (16 * a + k) ||| x := by rw [q4, jpL_at]
      have m4 : ∀ j t, bt (L uR (16 * a + j)) t = true → bt (L4 uR (16 * a + j)) t = true := fun j t h => by
        by_cases q : j = k
        · subst q
          rw [w4, bt_or, h]
          rfl
        · rw [s4 _ (by omega)]
          exact h
      refine ih k x5 L4 (by omega) (by omega) (by omega) (by rw [ex5]; exact (i_add e6 zm (by omega) (by omega)).trans (by omega)) (fun y hy => (o4 y hy).trans (ho y hy)) (fun j hj => (s4 j (by omega)).trans (hs j hj)) (fun j t hj h => m4 j t (hm j t hj h)) (fun j t h1 h2 h3 h => ?_)
      by_cases q : j = k
      · subst q
        rw [w4, bt_or, hx t h3 h, Bool.or_true]
      · exact m4 j t (hp j t (by omega) h2 h3 h)
    have sh : ∀ t, t < 64 → bs ≤ t → bt (L0 uR (16 * b + (k - ws))) (t - bs) = true → bt x10 t = true := fun t h1 h2 h3 => by
      rw [e10, bt_shl e5 hbs h1, decide_eq_true h2, h3]
      rfl
    refine ⟨fun c5 => ?_, fun c5 => ⟨fun c6 => ?_, fun c6 => ?_⟩⟩
    · have c5 := (i_le e5 z0).mp c5
      refine last x10 (fun t h1 h => ?_)
      rcases h with ⟨g1, g2⟩ | ⟨-, g2, -⟩
      · exact sh t h1 g1 g2
      · omega
    · have c6 := (i_le e6 e4).mp c6
      refine last x10 (fun t h1 h => ?_)
      rcases h with ⟨g1, g2⟩ | ⟨g1, -, -⟩
      · exact sh t h1 g1 g2
      · omega
    · have c5 := (not_congr (i_le e5 z0)).mp c5
      have c6 := (not_congr (i_le e6 e4)).mp c6
      intro b8 hb8; cases hR.symm.trans hb8
      have t2 : ((((v2 * (16 : Int32)) + v6) - v4) - (1 : Int32)).toInt = ((16 * b + (k - ws - 1) : Nat) : Int) := (i_sub t1 z1 (by omega) (by omega)).trans (by omega)
      have n2 : ((((v2 * (16 : Int32)) + v6) - v4) - (1 : Int32)).toNatClampNeg = 16 * b + (k - ws - 1) := by have := i_nat t2 (by omega); omega
      refine ⟨vi_of t2 (by omega) (by omega), fun x15 e15 => ?_⟩
      rw [n2, hs (16 * b + (k - ws - 1)) (by omega)] at e15
      have t64 : ((64 : Int32) - v5).toInt = ((64 - bs : Nat) : Int) := (i_sub z64 e5 (by omega) (by omega)).trans (by omega)
      refine last x15 (fun t h1 h => ?_)
      rw [e15, bt_or]
      rcases h with ⟨g1, g2⟩ | ⟨-, g2, g3⟩
      · rw [sh t h1 g1 g2]
        rfl
      · rw [bt_shr t64 (by omega), g3, Bool.or_true]
theorem r_X0_addReach {Z : jZ} {I : jI} {L : jL} (v0 uR : Nat) (hR : jr Z v0 1 = some uR) (v1 v2 v3 : Int32) (a b c : Nat) (e1 : v1.toInt = (a : Int)) (ha : a ≤ 24) (e2 : v2.toInt = (b : Int)) (hb : b ≤ 24) (hab : a ≠ b) (e3 : v3.toInt = (c : Int)) (hc : c ≤ 297) {Q : jI → jL → Prop}
    (hQ : ∀ L' : jL, (∀ x, x ≠ uR → L' x = L x) → (∀ q k, q ≠ a → k ≤ 1023 → (rb (L' uR) q k ↔ rb (L uR) q k)) → (∀ k, k ≤ 1023 → rb (L uR) a k → rb (L' uR) a k) → (∀ k, rb (L uR) b k → k + c ≤ 1023 → rb (L' uR) a (k + c)) → Q I L') : f_X0_addReach v0 v1 v2 v3 Z I L Q := by
  obtain ⟨m1, m2⟩ := i_mod64 e3 (by omega)
  unfold f_X0_addReach
  intro x16 e16 x17 e17
  rw [← e16] at m1
  rw [← e17] at m2
  refine ⟨17, ar_L16 v0 uR hR v1 v2 x16 x17 a b (c / 64) (c % 64) e1 ha e2 hb hab m1 (by omega) m2 (by omega) (fun L' ho hs hm hp => ?_) 17 16 15 L (by omega) (by omega) (by omega) (by decide) (fun _ _ => rfl) (fun _ _ => rfl) (fun _ _ _ h => h) (fun j t h1 h2 => by omega)⟩
  refine hQ L' ho (fun q k hq hk => ?_) (fun k hk h => ?_) (fun k h hk => ?_)
  · unfold rb
    rw [hs (16 * q + k / 64) (by omega)]
  · exact hm (k / 64) (k % 64) (by omega) h
  · refine hp ((k + c) / 64) ((k + c) % 64) (by omega) (by omega) (by omega) ?_
    unfold rb at h
    by_cases g : k % 64 + c % 64 < 64
    · refine Or.inl ⟨by omega, ?_⟩
      rw [show 16 * b + ((k + c) / 64 - c / 64) = 16 * b + k / 64 by omega, show (k + c) % 64 - c % 64 = k % 64 by omega]
      exact h
    · refine Or.inr ⟨by omega, by omega, ?_⟩
      rw [show 16 * b + ((k + c) / 64 - c / 64 - 1) = 16 * b + k / 64 by omega, show 64 - c % 64 + (k + c) % 64 = k % 64 by omega]
      exact h
/-- reach of places from q0 on -/
def RCH (f : Nat → Int64) (lp n : Nat) (op : Nat → Prop) (C : Nat → Nat → Int) (q0 : Nat) : Prop := (∀ k, k ≤ 1023 → (rb f n k ↔ k = 0)) ∧ ∀ q far k, q0 ≤ q → 1 ≤ far → far ≤ lp → q + far ≤ n → op (q + far) → rb f (q + far) k → ∀ j : Nat, (j : Int) = (k : Int) + C (q + far) far → j ≤ 1023 → rb f q j
def RCf (f : Nat → Int64) (q : Nat) (r : Int) : Prop := 0 ≤ r ∧ r ≤ 1023 ∧ rb f q r.toNat
theorem RCH_d {f : Nat → Int64} {lp n : Nat} {op : Nat → Prop} {C : Nat → Nat → Int} (hC : ∀ p f, 0 ≤ C p f ∧ C p f ≤ 297) (h : RCH f lp n op C 0) : RCd lp n op C (RCf f) := by
  refine ⟨fun q far r h1 h2 h3 h4 h5 h6 h7 => ?_, fun r => ⟨fun q => ?_, fun q => ?_⟩⟩
  · have c9 := hC (q + far) far
    exact ⟨by omega, by omega, h.2 q far r.toNat (Nat.zero_le _) h1 h2 h3 h4 h6.2.2 _ (by omega) (by omega)⟩
  · have := (h.1 r.toNat (by have := q.2.1; omega)).mp q.2.2
    have := q.1
    omega
  · subst q
    exact ⟨by decide, by decide, (h.1 0 (by decide)).mpr rfl⟩
set_option maxHeartbeats 1000000 in
theorem fr_L34 {Z : jZ} {I : jI} (w : WD Z I) (bb v0 uR : Nat) (hR : jr Z bb 1 = some uR) (u4 u5 u6 u7 lp n : Nat) (op : Nat → Prop) (C E : Nat → Nat → Int) (lu : Nat → Int) (hM : MVs Z I v0 u4 u5 u6 u7 lp n op C E lu) (hlp : lp ≤ 3) (hn : n ≤ 24) (hC : ∀ p f, 0 ≤ C p f ∧ C p f ≤ 297) (K28 : Nat → Nat → Int32 → jI → jL → Prop) (Q : jI → jL → Prop) (a : Nat) (han : a < n) (v2 : Int32) (e2 : v2.toInt = (a : Int)) (L0 : jL)
    (hK : ∀ (x : Int32) (L : jL), x.toInt = (a : Int) - 1 → (∀ x, x ≠ uR → L x = L0 x) → RCH (L uR) lp n op C a → K28 bb v0 x I L) :
    ∀ (k far : Nat) (v3 : Int32) (L : jL), 1 ≤ far → far ≤ 4 → 5 ≤ k + far → v3.toInt = (far : Int) → (∀ x, x ≠ uR → L x = L0 x) → RCH (L uR) lp n op C (a + 1) → (∀ f c, 1 ≤ f → f < far → f ≤ lp → a + f ≤ n → op (a + f) → rb (L uR) (a + f) c → ∀ j : Nat, (j : Int) = (c : Int) + C (a + f) f → j ≤ 1023 → rb (L uR) a j) → f_X0_findReach_L34 K28 Z Q k bb v0 v2 v3 I L := by
  have z1 : (1 : Int32).toInt = 1 := rfl
  have zm : (-1 : Int32).toInt = -1 := by decide
  obtain ⟨⟨g4, g5, g6, g7⟩, m3, m15, mo, mm, mu⟩ := hM
  intro k
  induction k with
  | zero => intro far v3 L h1 h4 hk; omega
  | succ k ih =>
    intro far v3 L h1 h4 hk e3 ho hR1 hin
    have out : (∀ f, 1 ≤ f → f ≤ lp → a + f ≤ n → f < far) → f_X0_findReach_b89 K28 Z Q bb v0 v2 I L := fun hall => by
      unfold f_X0_findReach_b89
      intro x ex
      refine hK x L (by rw [ex]; exact (i_add e2 zm (by omega) (by omega)).trans (by omega)) ho ⟨hR1.1, fun q f c q0 f1 f2 f3 f4 hc j ej hj => ?_⟩
      by_cases h : q = a
      · subst h
        exact hin f c f1 (hall f f1 f2 f3) f2 f3 f4 hc j ej hj
      · exact hR1.2 q f c (by omega) f1 f2 f3 f4 hc j ej hj
    have t23 : (v2 + v3).toInt = ((a + far : Nat) : Int) := (i_add e2 e3 (by omega) (by omega)).trans (by omega)
    have n23 : (v2 + v3).toNatClampNeg = a + far := by have := i_nat t23 (by omega); omega
    have nx : ∀ L1 : jL, (∀ x, x ≠ uR → L1 x = L0 x) → RCH (L1 uR) lp n op C (a + 1) → (∀ f c, 1 ≤ f → f < far + 1 → f ≤ lp → a + f ≤ n → op (a + f) → rb (L1 uR) (a + f) c → ∀ j : Nat, (j : Int) = (c : Int) + C (a + f) f → j ≤ 1023 → rb (L1 uR) a j) → far ≤ 3 → f_X0_findReach_b83 K28 (f_X0_findReach_L34 K28 Z Q k) Z Q bb v0 v2 v3 I L1 := fun L1 o1 r1 i1 f3 => by
      unfold f_X0_findReach_b83
      intro x ex
      exact ih (far + 1) x L1 (by omega) (by omega) (by omega) (by rw [ex]; exact (i_add e3 z1 (by omega) (by omega)).trans (by omega)) o1 r1 i1
    unfold f_X0_findReach_L34
    refine ⟨fun c => out (fun f f1 f2 f3 => ?_), fun c => ⟨fun c1 => out (fun f f1 f2 f3 => ?_), fun c1 => ?_⟩⟩
    · have c := (i_lt m3 e3).mp c
      omega
    · have c1 := (i_lt m15 t23).mp c1
      omega
    have c := (not_congr (i_lt m3 e3)).mp c
    have c1 := (not_congr (i_lt m15 t23)).mp c1
    intro b hb; cases g6.symm.trans hb
    rw [n23]
    refine ⟨vi_of t23 (by omega) (by omega), fun c2 => ?_, fun c2 => ?_⟩
    · refine nx L ho hR1 (fun f c f1 f2 f3 f4 f5 hc j ej hj => ?_) (by omega)
      by_cases h : f = far
      · subst h
        exact absurd c2 ((mo (a + f) (by omega)).mpr f5)
      · exact hin f c f1 (by omega) f3 f4 f5 hc j ej hj
    · have hop : op (a + far) := (mo (a + far) (by omega)).mp c2
      intro b hb; cases g4.symm.trans hb
      refine s_X6_moveTo w _ v3 ⟨by omega, by omega, by omega, by omega⟩ (fun r er => ?_)
      have tr : r.toInt = ((3 * (a + far) + far - 1 : Nat) : Int) := by rw [er, t23, e3]; omega
      have nr : r.toNatClampNeg = 3 * (a + far) + far - 1 := by have := i_nat tr (by omega); omega
      refine ⟨vi_of tr (by omega) (by omega), ?_⟩
      have mc := (mm (a + far) far ⟨h1, by omega, by omega, hop⟩ (by omega)).1
      have c9 := hC (a + far) far
      rw [nr]
      refine r_X0_addReach bb uR hR v2 (v2 + v3) _ a (a + far) (C (a + far) far).toNat e2 (by omega) t23 (by omega) (by omega) (by rw [mc]; omega) (by omega) (fun L' o' s' u' p' => ?_)
      refine nx L' (fun x hx => (o' x hx).trans (ho x hx)) ⟨fun k' hk' => ?_, fun q f c q0 f1 f2 f3 f4 hc j ej hj => ?_⟩ (fun f d f1 f2 f3 f4 f5 hc j ej hj => ?_) (by omega)
      · rw [s' n k' (by omega) hk']
        exact hR1.1 k' hk'
      · have c8 := hC (q + f) f
        exact (s' q j (by omega) hj).mpr (hR1.2 q f c q0 f1 f2 f3 f4 ((s' (q + f) c (by omega) (by omega)).mp hc) j ej hj)
      · have c8 := hC (a + f) f
        have hc' := (s' (a + f) d (by omega) (by omega)).mp hc
        by_cases h : f = far
        · subst h
          have t := p' d hc' (by omega)
          rw [show d + (C (a + f) f).toNat = j by omega] at t
          exact t
        · exact u' j hj (hin f d f1 (by omega) f3 f4 f5 hc' j ej hj)
theorem fr_L28 {Z : jZ} {I : jI} (w : WD Z I) (bb v0 uR : Nat) (hR : jr Z bb 1 = some uR) (u4 u5 u6 u7 lp n : Nat) (op : Nat → Prop) (C E : Nat → Nat → Int) (lu : Nat → Int) (hM : MVs Z I v0 u4 u5 u6 u7 lp n op C E lu) (hlp : lp ≤ 3) (hn : n ≤ 24) (hC : ∀ p f, 0 ≤ C p f ∧ C p f ≤ 297) (L0 : jL) {Q : jI → jL → Prop} (hQ : ∀ L' : jL, (∀ x, x ≠ uR → L' x = L0 x) → RCH (L' uR) lp n op C 0 → Q I L') :
    ∀ (k a : Nat) (v2 : Int32) (L : jL), a + 1 ≤ k → a ≤ n → v2.toInt = (a : Int) - 1 → (∀ x, x ≠ uR → L x = L0 x) → RCH (L uR) lp n op C a → f_X0_findReach_L28 Z Q k bb v0 v2 I L := by
  have z0 : (0 : Int32).toInt = 0 := rfl
  intro k
  induction k with
  | zero => intro a v2 L hk; omega
  | succ k ih =>
    intro a v2 L hk han e2 ho hr
    unfold f_X0_findReach_L28
    refine ⟨fun c => ?_, fun c => ?_⟩
    · have c := (i_lt e2 z0).mp c
      have a0 : a = 0 := by omega
      subst a0
      exact hQ L ho hr
    · have c := (not_congr (i_lt e2 z0)).mp c
      obtain ⟨b, rfl⟩ : ∃ b, a = b + 1 := ⟨a - 1, by omega⟩
      exact ⟨5, fr_L34 w bb v0 uR hR u4 u5 u6 u7 lp n op C E lu hM hlp hn hC _ Q b (by omega) v2 (by omega) L0 (fun x L' ex o' r' => ih b x L' (by omega) (by omega) ex o' r') 5 1 1 L (by omega) (by omega) (by omega) rfl ho hr (fun f c f1 f2 => by omega)⟩
theorem r_X0_findReach {Z : jZ} {I : jI} {L : jL} (w : WD Z I) (bb v0 uR : Nat) (hR : jr Z bb 1 = some uR) (lR : jlen Z uR = 400) (u4 u5 u6 u7 lp n : Nat) (op : Nat → Prop) (C E : Nat → Nat → Int) (lu : Nat → Int) (hM : MVs Z I v0 u4 u5 u6 u7 lp n op C E lu) (hlp : lp ≤ 3) (hn1 : 1 ≤ n) (hn : n ≤ 24) (hC : ∀ p f, 0 ≤ C p f ∧ C p f ≤ 297) {Q : jI → jL → Prop} (hQ : ∀ L' : jL, (∀ x, x ≠ uR → L' x = L x) → RCd lp n op C (RCf (L' uR)) → Q I L') : f_X0_findReach bb v0 Z I L Q := by
  have z1 : (1 : Int32).toInt = 1 := rfl
  have z16 : (16 : Int32).toInt = 16 := rfl
  have m15 := hM.2.2.1
  unfold f_X0_findReach
  intro b hb; cases hR.symm.trans hb
  refine r_J7_fillL uR 0 400 (by decide) lR (fun L1 f1 o1 => ?_)
  intro b hb; cases hR.symm.trans hb
  have t : ((I v0 15) * (16 : Int32)).toInt = ((16 * n : Nat) : Int) := (i_mul m15 z16 (by omega) (by omega)).trans (by omega)
  have tn : ((I v0 15) * (16 : Int32)).toNatClampNeg = 16 * n := by have := i_nat t (by omega); omega
  refine ⟨vi_of t (by omega) (by omega), fun L2 q2 x ex => ?_⟩
  rw [tn] at q2
  have o2 : ∀ y, y ≠ uR → L2 y = L y := fun y hy => by rw [q2, jpL_ne hy, o1 y hy]
  have zb : ∀ t : Nat, bt (0 : Int64) t = false := fun t => by
    unfold bt
    show (0 : BitVec 64).getLsbD t = false
    exact BitVec.getLsbD_zero
  have v2 : ∀ j, j < 400 → L2 uR j = if j = 16 * n then 1 else 0 := fun j hj => by
    by_cases h : j = 16 * n
    · rw [if_pos h, h, q2, jpL_at]
    · rw [if_neg h, q2, jpL_off h, f1 j hj]
  have one : ∀ q : Fin 64, bt (1 : Int64) q.val = decide (q.val = 0) := by decide +kernel
  refine ⟨n + 1, fr_L28 w bb v0 uR hR u4 u5 u6 u7 lp n op C E lu hM hlp hn hC L2 (fun L' o' r' => hQ L' (fun y hy => (o' y hy).trans (o2 y hy)) (RCH_d hC r')) (n + 1) n x L2 (by omega) (by omega) (by rw [ex]; exact i_sub m15 z1 (by omega) (by omega)) (fun _ _ => rfl) ⟨fun k hk => ?_, fun q f c q0 f1 f2 f3 => by omega⟩⟩
  unfold rb
  rw [v2 _ (by omega)]
  by_cases h : k / 64 = 0
  · rw [if_pos (by omega), one ⟨k % 64, by omega⟩, decide_eq_true_iff]
    show k % 64 = 0 ↔ k = 0
    omega
  · rw [if_neg (by omega), zb]
    exact ⟨fun q => (by cases q), fun q => absurd (by rw [q]) h⟩
set_option maxHeartbeats 1000000 in
theorem c_takeS_L4 {Z : jZ} {I : jI} {L : jL} (w_I : WD Z I) (v0 : Nat) (kv0 : jk Z v0 7) (b0 b1 b2 b4 b5 b6 b7 : Nat) (hc : RCs Z v0 b0 b1 b2 b4 b5 b6 b7) (S : Nat → List Int) (m : Nat) (hS : MGb I L v0 b0 b4 b5 b6 b7 S m) (hm : 1 ≤ m) (hcn : cnS S m ≠ 0) (hs : ∀ i, srt (S i)) (hB : ∀ i x, x ∈ S i → x < BIG) {Q : Int64 → jI → jL → Prop}
    (hQ : ∀ (r : Int64) (I' : jI) (L' : jL), WD Z I' → FR W7 Z I Z I' → (∀ p, FI Z I v0 p → FI Z I' v0 p) → RO v0 Z I I' → I' v0 3 = I v0 3 → I' b1 = I b1 → I' b2 = I b2 → I' b5 = I b5 → r.toInt = hdB (S (wh (fun i => hdB (S i)) (m - 1))) → MGb I' L' v0 b0 b4 b5 b6 b7 (tkS S (wh (fun i => hdB (S i)) (m - 1))) m → (∀ x, x ≠ b7 → L' x = L x) → Q r I' L') :
    ∀ (n k : Nat) (v1 v2 : Int32), v2.toInt = ((k + 1 : Nat) : Int) → k + 1 ≤ m → v1.toInt = (wh (fun i => hdB (S i)) k : Int) → 4 ≤ n + k → f_X7_take_L4 Z Q n v0 v1 v2 I L := by
  obtain ⟨q06, q07, q67, kk0, k6, k7, l6, l7, -⟩ := RC_ne w_I kv0 hc
  obtain ⟨g0, g1, g2, g4, g5, g6, g7⟩ := hc
  obtain ⟨c0, c1, c2, c4, c5, e0, e1, e2, e4, e5, k0, k1, k2, k4, k5, n1, n2, n4, n5, n12, n14, n15, n24, n25, n45, r1, r2, r3, r4, r5, r6⟩ := rows_at w_I kv0
  cases g0.symm.trans e0; cases g1.symm.trans e1; cases g2.symm.trans e2; cases g4.symm.trans e4; cases g5.symm.trans e5
  have z0 : (0 : Int32).toInt = 0 := rfl
  have z1 : (1 : Int32).toInt = 1 := rfl
  obtain ⟨m3, m8, m9, mg⟩ := hS
  obtain ⟨hwl, hwm⟩ := wh_some hs hB hm hcn
  intro n
  induction n with
  | zero => intro k v1 v2 e2v hk e1v hn; omega
  | succ n ih =>
    intro k v1 v2 e2v hk e1v hn
    have hwk := wh_le (fun i => hdB (S i)) k
    have qv1 : v1.toNatClampNeg = wh (fun i => hdB (S i)) k := by have := i_nat e1v (by omega); omega
    unfold f_X7_take_L4
    refine ⟨fun c => ⟨fun c2 => ?_, fun c2 => ?_⟩, fun c => ?_⟩
    · have c := (i_le m8 e2v).mp c
      have ek : k = m - 1 := by omega
      rw [ek] at e1v qv1
      generalize hw : wh (fun i => hdB (S i)) (m - 1) = w at e1v qv1 hwl hwm hQ
      have vi : vp_in v1 3 := vi_of e1v (by omega) (by omega)
      obtain ⟨p1, p2, p3, p4, p5⟩ := mg w hwm
      intro b h; cases g7.symm.trans h
      refine ⟨vi, fun x9 ex9 => ?_⟩
      rw [qv1] at ex9
      intro b h; cases e4.symm.trans h
      refine ⟨vi, vi, fun I1 q1 => ?_⟩
      rw [qv1] at q1
      have h6 := r6 w (by omega)
      have t1 := i_add (x := I b4 w) rfl z1 (by omega) (by omega)
      have hcn2 := (cnS_tk hwl m).2 hwm
      have hnw : (I b4 w).toNatClampNeg + 1 = (I b4 w + 1).toNatClampNeg := by
        have a := i_nat (x := I b4 w) rfl p1
        have b := i_nat t1 (by omega)
        omega
      have last : ∀ (s2 : Int64), s2.toInt = hdB ((S w).tail) → f_X7_take_b122 Z Q v0 x9 b7 v1 s2 I1 L := fun s2 hs2 => by
        unfold f_X7_take_b122
        refine ⟨by rw [l7]; exact vi_of e1v (by omega) (by omega), fun L2 q2 I3 q3 => ?_⟩
        rw [qv1] at q2
        have a3 : I3 v0 3 = I v0 3 := by rw [q3, jpI_off (by decide), q1, jpI_ne n4]
        have a8 : I3 v0 8 = I v0 8 := by rw [q3, jpI_off (by decide), q1, jpI_ne n4]
        have t9 : (I3 v0 9).toInt = (I v0 9).toInt - 1 := by
          rw [q3, jpI_at, q1, jpI_ne n4]
          exact i_sub rfl z1 (by omega) (by omega)
        have c1 : I3 b1 = I b1 := by rw [q3, jpI_ne n1.symm, q1, jpI_ne n14]
        have c2 : I3 b2 = I b2 := by rw [q3, jpI_ne n2.symm, q1, jpI_ne n24]
        have c5 : I3 b5 = I b5 := by rw [q3, jpI_ne n5.symm, q1, jpI_ne n45.symm]
        have c4 : ∀ p, I3 b4 p = if p = w then I b4 w + 1 else I b4 p := fun p => by
          rw [q3, jpI_ne n4.symm, q1]
          by_cases q : p = w
          · rw [if_pos q, q, jpI_at]
          · rw [if_neg q, jpI_off q]
        obtain ⟨g1', g2', g3'⟩ := WD_rows (I' := I3) w_I kv0 e0 e1 e2 e4 e5 (fun x x0 x1 x2 x4 x5 => by rw [q3, jpI_ne x0, q1, jpI_ne x4]) (fun j j3 j8 j9 => by rw [q3, jpI_off j9, q1, jpI_ne n4]) (by
          unfold RI1
          rw [a3, a8, t9, c1, c2]
          refine ⟨r1, r2, r3, r4, by omega, fun p hp => ?_⟩
          rw [c4]
          by_cases q : p = w
          · rw [if_pos q]
            have : (I b4 w + 1).toInt = (I b4 w).toInt + 1 := t1
            omega
          · rw [if_neg q]
            have := r6 p hp
            omega)
        have lo : ∀ x, x ≠ b7 → L2 x = L x := fun x hx => by rw [q2, jpL_ne hx]
        have d7 : ∀ i, L2 b7 i = if i = w then s2 else L b7 i := fun i => by
          rw [q2]
          by_cases q : i = w
          · rw [if_pos q, q, jpL_at]
          · rw [if_neg q, jpL_off q]
        refine hQ _ I3 L2 g1' g2' (fun p hp b hb => by rw [a3]; cases e1.symm.trans hb; rw [c1]; exact hp b1 e1) g3' a3 c1 c2 c5 (by rw [ex9]; exact p4) ⟨m3, by rw [a8]; exact m8, by rw [t9, m9]; omega, fun i hi => ?_⟩ lo
        rw [c4, c5, d7, lo b0 q07, lo b6 (fun e => q67 e), a3]
        by_cases q : i = w
        · subst q
          have et : tkS S i i = (S i).tail := by unfold tkS; rw [if_pos rfl]
          rw [if_pos rfl, if_pos rfl, et, List.length_tail]
          have t1' : (I b4 i + 1).toInt = (I b4 i).toInt + 1 := t1
          refine ⟨by omega, by omega, p3, hs2, fun k x hk => ?_⟩
          have := p5 (k + 1) x (tl_get hk)
          rw [← hnw, show (I b4 i).toNatClampNeg + 1 + k = (I b4 i).toNatClampNeg + (k + 1) by omega]
          exact this
        · have et : tkS S w i = S i := by unfold tkS; rw [if_neg q]
          rw [if_neg q, if_neg q, et]
          exact mg i hi
      intro b h; cases e4.symm.trans h
      refine ⟨vi, fun x16 ex16 => ?_⟩
      have tx : x16.toInt = (I b4 w).toInt + 1 := by rw [ex16, qv1, q1, jpI_at]; exact t1
      have c5w : I1 b5 = I b5 := by rw [q1, jpI_ne n45.symm]
      intro b h; cases g7.symm.trans h
      intro b h; cases e5.symm.trans h
      rw [qv1, c5w]
      refine ⟨vi, fun c3 => ?_, fun c3 => ?_⟩
      · have c3 := (i_le (x := I b5 w) rfl tx).mp c3
        unfold f_X7_take_b119
        refine last _ ?_
        rw [hd_nil (l := (S w).tail) (by rw [List.length_tail]; omega)]
        rfl
      have c3 := (not_congr (i_le (x := I b5 w) rfl tx)).mp c3
      intro b h; cases e0.symm.trans h
      refine ⟨fun c4 => ?_, fun c4 => ?_⟩
      · have c4 := (i_le (i_nI (by omega)) tx).mp c4
        omega
      intro b h; cases e0.symm.trans h
      refine ⟨vi_of tx (by omega) (by omega), ?_⟩
      intro b h; cases g6.symm.trans h
      refine ⟨vi, last _ ?_⟩
      have q16 : x16.toNatClampNeg = (I b4 w).toNatClampNeg + 1 := by
        have a := i_nat (x := I b4 w) rfl p1
        have b := i_nat tx (by omega)
        omega
      rw [q16]
      match hl : S w with
      | [] => rw [hl] at hwl; exact absurd rfl hwl
      | [y] =>
        rw [hl] at p2
        have p2 : (I b5 w).toInt = (I b4 w).toInt + 1 := p2
        omega
      | y :: z :: t =>
        obtain ⟨a1, a2, a3⟩ := p5 1 z (by rw [hl]; rfl)
        unfold BIG at a3
        show _ = z
        rw [l_add (x := L b0 ((I b4 w).toNatClampNeg + 1)) (y := L b6 w) rfl rfl (by omega) (by omega)]
        exact a1
    · have c2 := (i_eq m9 z0).mp c2
      omega
    · have c := (not_congr (i_le m8 e2v)).mp c
      have q2v : v2.toNatClampNeg = k + 1 := by have := i_nat e2v (by omega); omega
      have vi1 : vp_in v1 3 := vi_of e1v (by omega) (by omega)
      have vi2 : vp_in v2 3 := vi_of e2v (by omega) (by omega)
      have a1 := (mg (k + 1) (by omega)).2.2.2.1
      have a2 := (mg (wh (fun i => hdB (S i)) k) (by omega)).2.2.2.1
      intro b h; cases g7.symm.trans h
      refine ⟨vi2, ?_⟩
      intro b h; cases g7.symm.trans h
      rw [q2v, qv1]
      have nx : ∀ x : Int32, x = v2 + 1 → x.toInt = ((k + 1 + 1 : Nat) : Int) := fun x ex => by rw [ex]; exact (i_add e2v z1 (by omega) (by omega)).trans (by omega)
      have ew : wh (fun i => hdB (S i)) (k + 1) = if hdB (S (k + 1)) < hdB (S (wh (fun i => hdB (S i)) k)) then k + 1 else wh (fun i => hdB (S i)) k := rfl
      refine ⟨vi1, fun c3 => ?_, fun c3 => ?_⟩
      · have c3 := Int64.le_iff_toInt_le.mp ((lg_cmp_ge _ _).mp c3)
        rw [a1, a2] at c3
        unfold f_X7_take_b33
        intro x ex
        refine ih (k + 1) v1 x (nx x ex) (by omega) ?_ (by omega)
        rw [ew, if_neg (by omega)]
        exact e1v
      · have c3 := fun q => c3 ((lg_cmp_ge _ _).mpr (Int64.le_iff_toInt_le.mpr q))
        rw [a1, a2] at c3
        unfold f_X7_take_b33
        intro x ex
        refine ih (k + 1) v2 x (nx x ex) (by omega) ?_ (by omega)
        rw [ew, if_pos (Int.not_le.mp c3)]
        exact e2v
theorem r_X7_takeS {Z : jZ} {I : jI} {L : jL} (w_I : WD Z I) (v0 : Nat) (kv0 : jk Z v0 7) (b0 b1 b2 b4 b5 b6 b7 : Nat) (hc : RCs Z v0 b0 b1 b2 b4 b5 b6 b7) (S : Nat → List Int) (m : Nat) (hS : MGb I L v0 b0 b4 b5 b6 b7 S m) (hm : 1 ≤ m) (hcn : cnS S m ≠ 0) (hs : ∀ i, srt (S i)) (hB : ∀ i x, x ∈ S i → x < BIG) {Q : Int64 → jI → jL → Prop}
    (hQ : ∀ (r : Int64) (I' : jI) (L' : jL), WD Z I' → FR W7 Z I Z I' → (∀ p, FI Z I v0 p → FI Z I' v0 p) → RO v0 Z I I' → I' v0 3 = I v0 3 → I' b1 = I b1 → I' b2 = I b2 → I' b5 = I b5 → r.toInt = hdB (S (wh (fun i => hdB (S i)) (m - 1))) → MGb I' L' v0 b0 b4 b5 b6 b7 (tkS S (wh (fun i => hdB (S i)) (m - 1))) m → (∀ x, x ≠ b7 → L' x = L x) → Q r I' L') : f_X7_take v0 Z I L Q := by
  unfold f_X7_take
  exact ⟨4, c_takeS_L4 w_I v0 kv0 b0 b1 b2 b4 b5 b6 b7 hc S m hS hm hcn hs hB hQ 4 0 0 1 rfl (by omega) rfl (by omega)⟩
set_option maxHeartbeats 2000000 in
theorem r_X7_pushS {B : Nat × Nat} {T : Nat} {Z : jZ} {I : jI} {L : jL} (w_I : WD Z I) (bd : BUD B Z T) (v0 : Nat) (v1 : Int32) (v2 : Int64) (kv0 : jk Z v0 7) (b0 b1 b2 b4 b5 b6 b7 : Nat) (hcs : RCs Z v0 b0 b1 b2 b4 b5 b6 b7) (p : Nat) (ev : v1.toInt = (p : Int)) (hp : p < 25) (p2 : (capN Z v0 = 1048576 ∧ (I v0 3).toInt ≤ 1048575) ∨ (I v0 3).toInt ≤ 98304) (key : Int) (ek : v2.toInt = key) (R : Nat → List Int) (hR : RRb I L b0 b1 b2 R) (S : Nat → List Int) (m : Nat) (hS : MGb I L v0 b0 b4 b5 b6 b7 S m) (hcu : CUr I v0 b1 R p) {Q : jZ → jI → jL → Prop}
    (hQ : ∀ (Z' : jZ) (I' : jI) (L' : jL) (c0 : Nat), WD Z' I' → BUD B Z' T → FR W7 Z I Z' I' → CP Z Z' → RO v0 Z I I' → (I' v0 3).toInt = (I v0 3).toInt + 1 → RCs Z' v0 c0 b1 b2 b4 b5 b6 b7 → RRb I' L' c0 b1 b2 (fun q => if q = p then R p ++ [key] else R q) → MGb I' L' v0 c0 b4 b5 b6 b7 S m → CUr I' v0 b1 (fun q => if q = p then R p ++ [key] else R q) p → (c0 = b0 ∨ c0 ∉ Z.1) → (∀ x, x ∈ Z.1 → x ≠ b0 → L' x = L x) → I' b1 = I b1 → I' b5 = I b5 → (∀ q, q ≠ p → (I' b2 q).toInt = (I b2 q).toInt) → Q Z' I' L') : f_X7_push B v0 v1 v2 Z I L Q := by
  have z0 : (0 : Int32).toInt = 0 := rfl
  have z1 : (1 : Int32).toInt = 1 := rfl
  have qn : v1.toNatClampNeg = p := by have := i_nat ev (by omega); omega
  have vi1 : vp_in v1 25 := vi_of ev (by omega) (by omega)
  -- the second half, in any pool
  have half : ∀ (Z1 : jZ) (I1 : jI) (L1 : jL) (c0 : Nat), WD Z1 I1 → BUD B Z1 T → FR W7 Z I Z1 I1 → CP Z Z1 → jk Z1 v0 7 → I1 v0 3 = I v0 3 → I1 b1 = I b1 → I1 b5 = I b5 → I1 b2 = I b2 → RO v0 Z I I1 → RCs Z1 v0 c0 b1 b2 b4 b5 b6 b7 → RRb I1 L1 c0 b1 b2 R → MGb I1 L1 v0 c0 b4 b5 b6 b7 S m → CUr I1 v0 b1 R p → (I v0 3).toInt < (jlen Z1 c0 : Int) → (c0 = b0 ∨ c0 ∉ Z.1) → (∀ x, x ∈ Z.1 → x ≠ b0 → L1 x = L x) → f_X7_push_b38 B Q v0 v1 v2 Z1 I1 L1 := by
    intro Z1 I1 L1 c0 w b f cp k e3 j1 j5 j2 ot hc1 hR1 hS1 hcu1 hlt hc0 hlo
    obtain ⟨q06, q07, q67, kk0, kk6, kk7, l6, l7, -⟩ := RC_ne w k hc1
    have hcc := hc1
    obtain ⟨g0, g1, g2, g4, g5, g6, g7⟩ := hc1
    obtain ⟨d0, d1, d2, d4, d5, e0, e1, e2, e4, e5, k0, k1, k2, k4, k5, n1, n2, n4, n5, n12, n14, n15, n24, n25, n45, r1, r2, r3, r4, r5, r6⟩ := rows_at w k
    cases g0.symm.trans e0; cases g1.symm.trans e1; cases g2.symm.trans e2; cases g4.symm.trans e4; cases g5.symm.trans e5
    obtain ⟨m3, m8, m9, mg⟩ := hS1
    have hsz := (hR1 p hp).1
    have e3i : (I1 v0 3).toInt = (I v0 3).toInt := by rw [e3]
    obtain ⟨u1, u2⟩ := hcu1
    unfold f_X7_push_b38
    intro b' h; cases e0.symm.trans h
    refine ⟨fun c => ?_, fun c => ⟨fun c2 => ?_, fun _ => ⟨fun c2 => ?_, fun _ => ?_⟩⟩⟩
    · have c := (i_le (i_nI (by omega)) (by rw [e3])).mp c
      omega
    · have c2 := (i_lt ev z0).mp c2
      omega
    · have c2 := (i_le (show (25 : Int32).toInt = 25 from rfl) ev).mp c2
      omega
    intro b' h; cases e0.symm.trans h
    refine ⟨vi_of rfl (by omega) (by rw [e3]; omega), fun L7 q7 I8 q8 => ?_⟩
    intro b' h; cases e2.symm.trans h
    refine ⟨vi1, vi1, fun I9 q9 => ?_⟩
    rw [qn] at q9
    have g4p := r4 p hp
    have qf : ((I1 v0 3).toNatClampNeg : Int) = (I1 v0 3).toInt := i_nat rfl r1.1
    have t3 : (I9 v0 3).toInt = (I1 v0 3).toInt + 1 := by
      rw [q9, jpI_ne n2, q8, jpI_at]
      exact i_add rfl z1 (by omega) (by omega)
    have a8 : I9 v0 8 = I1 v0 8 := by rw [q9, jpI_ne n2, q8, jpI_off (by decide)]
    have a9 : I9 v0 9 = I1 v0 9 := by rw [q9, jpI_ne n2, q8, jpI_off (by decide)]
    have c1 : I9 b1 = I1 b1 := by rw [q9, jpI_ne n12, q8, jpI_ne n1.symm]
    have c4 : I9 b4 = I1 b4 := by rw [q9, jpI_ne n24.symm, q8, jpI_ne n4.symm]
    have c5 : I9 b5 = I1 b5 := by rw [q9, jpI_ne n25.symm, q8, jpI_ne n5.symm]
    have c2 : ∀ q, (I9 b2 q).toInt = if q = p then (I1 b2 p).toInt + 1 else (I1 b2 q).toInt := fun q => by
      rw [q9]
      by_cases h : q = p
      · rw [if_pos h, h, jpI_at, q8, jpI_ne n2.symm]
        exact i_add rfl z1 (by omega) (by omega)
      · rw [if_neg h, jpI_off h, q8, jpI_ne n2.symm]
    obtain ⟨g1', g2', g3'⟩ := WD_rows (I' := I9) w k e0 e1 e2 e4 e5 (fun x x0 x1 x2 x4 x5 => by rw [q9, jpI_ne x2, q8, jpI_ne x0]) (fun j j3 j8 j9 => by rw [q9, jpI_ne n2, q8, jpI_off j3]) (by
      unfold RI1
      rw [t3, a8, a9, c1, c4]
      refine ⟨by omega, r2, r3, fun q hq => ?_, r5, r6⟩
      rw [c2]
      by_cases h : q = p
      · rw [if_pos h, h]; omega
      · rw [if_neg h]
        have := r4 q hq
        refine ⟨this.1, fun h => ?_⟩
        have := this.2 h
        omega)
    have lo : ∀ x, x ≠ c0 → L7 x = L1 x := fun x hx => by rw [q7, jpL_ne hx]
    have l0 : ∀ j, j ≠ (I1 v0 3).toNatClampNeg → L7 c0 j = L1 c0 j := fun j hj => by rw [q7, jpL_off hj]
    refine hQ Z1 I9 L7 c0 g1' b (FR.trans w_I.1 w_I.2.1 f g2') cp (fun x hk hn => by rw [g3' x (f.1 x 7 hk).1 hn]; exact ot x hk hn) (by rw [t3, e3]) hcc (fun q hq => ?_) ⟨m3, by rw [a8]; exact m8, by rw [a9]; exact m9, fun i hi => ?_⟩ ⟨?_, by rw [c1]; exact u2⟩ hc0 (fun x hx hb => ?_) (c1.trans j1) (c5.trans j5) (fun q hq => by rw [c2, if_neg hq, j2])
    · show (I9 b2 q).toInt = (((if q = p then R p ++ [key] else R q) : List Int).length : Int) ∧ ∀ (i : Nat) (x : Int), ((if q = p then R p ++ [key] else R q) : List Int)[i]? = some x → _
      rw [c1]
      by_cases h : q = p
      · rw [if_pos h, c2, if_pos h, h, List.length_append]
        refine ⟨by rw [hsz]; rfl, fun i x hx => ?_⟩
        have qb := i_nat (x := I1 b1 p) rfl u2
        by_cases hi : i < (R p).length
        · rw [List.getElem?_append_left hi] at hx
          rw [l0 _ (by omega)]
          exact (hR1 p hp).2 i x hx
        · rw [List.getElem?_append_right (by omega)] at hx
          have hi2 : i = (R p).length := by
            refine Classical.byContradiction (fun q2 => ?_)
            rw [List.getElem?_eq_none (show [key].length ≤ i - (R p).length by show 1 ≤ i - (R p).length; omega)] at hx
            cases hx
          rw [hi2, Nat.sub_self] at hx
          have hx : some key = some x := hx
          rw [show (I1 b1 p).toNatClampNeg + i = (I1 v0 3).toNatClampNeg by omega, q7, jpL_at, ek]
          exact Option.some.inj hx
      · rw [if_neg h, c2, if_neg h]
        refine ⟨(hR1 q hq).1, fun i x hx => ?_⟩
        have g4q := r4 q hq
        have hs := (hR1 q hq).1
        have hil : i < (R q).length := by
          refine Nat.lt_of_not_le (fun q2 => ?_)
          rw [List.getElem?_eq_none q2] at hx
          cases hx
        have g5q := g4q.2 (by omega)
        have qb := i_nat (x := I1 b1 q) rfl g5q.1
        rw [l0 _ (by omega)]
        exact (hR1 q hq).2 i x hx
    · obtain ⟨p1, p2', p3, p4, p5⟩ := mg i hi
      rw [c4, c5, t3, lo b7 (fun e => q07 e.symm), lo b6 (fun e => q06 e.symm)]
      refine ⟨p1, p2', by omega, p4, fun k' x hx => ?_⟩
      have hil : k' < (S i).length := by
        refine Nat.lt_of_not_le (fun q2 => ?_)
        rw [List.getElem?_eq_none q2] at hx
        cases hx
      have qb := i_nat (x := I1 b4 i) rfl p1
      rw [l0 _ (by omega)]
      exact p5 k' x hx
    · show (I9 b1 p).toInt + (((if p = p then R p ++ [key] else R p) : List Int).length : Int) = _
      rw [if_pos rfl, c1, t3, List.length_append]
      show (I1 b1 p).toInt + (((R p).length + 1 : Nat) : Int) = _
      omega
    · by_cases hxc : x = c0
      · rcases hc0 with h | h
        · rw [hxc] at hb; exact absurd h hb
        · rw [hxc] at hx; exact absurd hx h
      · rw [lo x hxc]; exact hlo x hx hb
  obtain ⟨q06, q07, q67, kk0, kk6, kk7, l6, l7, -⟩ := RC_ne w_I kv0 hcs
  have hcc := hcs
  obtain ⟨g0, g1, g2, g4, g5, g6, g7⟩ := hcs
  obtain ⟨d0, d1, d2, d4, d5, e0, e1, e2, e4, e5, k0, k1, k2, k4, k5, n1, n2, n4, n5, n12, n14, n15, n24, n25, n45, r1, r2, r3, r4, r5, r6⟩ := rows_at w_I kv0
  cases g0.symm.trans e0; cases g1.symm.trans e1; cases g2.symm.trans e2; cases g4.symm.trans e4; cases g5.symm.trans e5
  have same : (I v0 3).toInt < (jlen Z b0 : Int) → f_X7_push_b38 B Q v0 v1 v2 Z I L := fun hlt => half Z I L b0 w_I bd FR.rf CP.rf kv0 rfl rfl rfl rfl (fun _ _ _ => rfl) hcc hR hS hcu hlt (Or.inl rfl) (fun _ _ _ => rfl)
  unfold f_X7_push
  intro b h; cases e0.symm.trans h
  refine ⟨fun c => ?_, fun c => ⟨fun c2 => ?_, fun c2 => ?_⟩⟩
  · have c := (not_congr (i_eq (x := I v0 3) rfl (i_nI (n := jlen Z b0) (by omega)))).mp c
    exact same (by omega)
  · have c2 := (i_le (show (1048576 : Int32).toInt = 1048576 from rfl) (y := I v0 3) rfl).mp c2
    omega
  have hc : (I v0 3).toInt = (jlen Z b0 : Int) := (i_eq rfl (i_nI (by omega))).mp c
  have hc2 := (not_congr (i_le (show (1048576 : Int32).toInt = 1048576 from rfl) rfl)).mp c2
  intro b h; cases e0.symm.trans h
  have t2 : ((I v0 3) * (2 : Int32)).toInt = (I v0 3).toInt * 2 := i_mul rfl (show (2 : Int32).toInt = 2 from rfl) (by omega) (by omega)
  have tn := i_nat t2 (by omega)
  have hcap : 2 * jlen Z b0 ≤ capN Z v0 := by
    rcases p2 with h | h
    · rw [h.1]
      have := pw_2 r2 (by omega)
      unfold pw at this
      omega
    · have := pw_17 r2 (by omega)
      rcases capN_cases Z v0 with h' | h' <;> omega
  have hpot : (capN Z v0 - jlen Z b0) / 64 ≤ potc Z := by
    have h := sum_one (l := Z.1) (f := fun a => if Z.2.1 a = 7 then (capN Z a - klen Z a) / 64 else 0) (g := fun x => if x = v0 then 0 else (if Z.2.1 x = 7 then (capN Z x - klen Z x) / 64 else 0)) (a := v0) w_I.2.1.1 kv0.1 (fun x _ hne => by simp [hne])
    have ka : klen Z v0 = jlen Z b0 := by unfold klen; rw [e0]
    simp only [if_true, kv0.2, ka] at h
    unfold potc
    omega
  have p64 := pw_64 r2
  have pc : capN Z v0 % 64 = 0 := by rcases capN_cases Z v0 with h | h <;> rw [h]
  obtain ⟨bd1, bd2⟩ := id bd
  unfold f_J7_copyOf_c38d5
  refine ⟨fun _ => ⟨⟨(not_congr (i_lt t2 z0)).mpr (by omega), by omega, by omega, by omega⟩, ?_⟩, fun c => ?_⟩
  · intro q hq Z4 eZ I5 eI L6 eL
    have hb4 : jlen Z4 b0 = jlen Z b0 := by rw [eZ]; exact (jext_nw hq b0 15 k0).2
    have hq4 : jlen Z4 q = ((I v0 3) * (2 : Int32)).toNatClampNeg := by rw [eZ]; exact jlen_nw
    have cond : ¬ ((I v0 3) * (2 : Int32)) < nI (jlen Z4 b0) := (not_congr (i_lt t2 (i_nI (by omega)))).mpr (by rw [hb4]; omega)
    rw [if_neg cond]
    have tq := i_nat (x := nI (jlen Z4 b0)) (i_nI (by omega)) (by omega)
    have t00 := i_nat (x := (0 : Int32)) z0 (by omega)
    refine ⟨⟨by decide, by decide, (not_congr (i_lt (i_nI (by omega)) z0)).mpr (by omega), by omega, by rw [hq4]; omega⟩, fun L9 e9 => ?_⟩
    dsimp only
    refine ⟨fun h => (by cases h), fun b h Z27 e27 => ?_⟩
    cases h
    obtain ⟨w1, w2, w3, w4⟩ := WD_grow (n := ((I v0 3) * (2 : Int32)).toNatClampNeg) w_I bd kv0 hq e0 (by omega) (by omega) (by omega)
    rw [← eZ, ← e27] at w1 w2 w3 w4
    rw [← eI] at w1 w3
    have Io : ∀ x, x ≠ q → I5 x = I x := fun x hx => by rw [eI]; exact va_up_ne _ _ hx
    have Lo : ∀ x, x ≠ q → L9 x = L x := fun x hx => by rw [e9, va_up_ne _ _ hx, eL]; exact va_up_ne _ _ hx
    have nq : ∀ x c, jk Z x c → x ≠ q := fun x c hk e => hq (e ▸ hk.1)
    have Lq : ∀ j, j < jlen Z b0 → L9 q j = L b0 j := fun j hj => by
      rw [e9, va_up_self]
      have zz : (0 : Int32).toNatClampNeg = 0 := by omega
      rw [zz]
      unfold va_cpy
      rw [if_pos (by omega), eL, show jzL L q b0 = L b0 from va_up_ne _ _ (nq b0 15 k0)]
      congr 1
      omega
    have hr : ∀ j, j ≠ 0 → jr Z27 v0 j = jr Z v0 j := fun j hj => w3.2.1 v0 7 j kv0 (by omega) (by omega)
    have h0 : jr Z27 v0 0 = some q := by rw [e27]; exact jrR_at
    have e3 : I5 v0 3 = I v0 3 := by rw [Io v0 (nq v0 7 kv0)]
    have c1 : I5 b1 = I b1 := Io b1 (nq b1 14 k1)
    have c2 : I5 b2 = I b2 := Io b2 (nq b2 14 k2)
    have lq27 : jlen Z27 q = ((I v0 3) * (2 : Int32)).toNatClampNeg := by rw [e27]; exact hq4
    refine half Z27 I5 L9 q w1 w2 w3 w4 (w3.1 v0 7 kv0).1 e3 c1 (Io b5 (nq b5 14 k5)) c2 (fun x hk hn => by rw [Io x (nq x 7 hk)]) (RCs_re hcc hr h0) (fun p' hp' => ?_) ⟨hS.1, by rw [Io v0 (nq v0 7 kv0)]; exact hS.2.1, by rw [Io v0 (nq v0 7 kv0)]; exact hS.2.2.1, fun i hi => ?_⟩ ⟨by rw [c1, e3]; exact hcu.1, by rw [c1]; exact hcu.2⟩ (by rw [lq27]; omega) (Or.inr hq) (fun x hx _ => Lo x (fun e => hq (e ▸ hx)))
    · rw [c1, c2]
      refine ⟨(hR p' hp').1, fun i x hx => ?_⟩
      have g4q := r4 p' hp'
      have hs := (hR p' hp').1
      have hil : i < (R p').length := by
        refine Nat.lt_of_not_le (fun q2 => ?_)
        rw [List.getElem?_eq_none q2] at hx
        cases hx
      have g5q := g4q.2 (by omega)
      have qb := i_nat (x := I b1 p') rfl g5q.1
      rw [Lq _ (by omega)]
      exact (hR p' hp').2 i x hx
    · obtain ⟨p1, p2', p3, p4, p5⟩ := hS.2.2.2 i hi
      rw [Io b4 (nq b4 14 k4), Io b5 (nq b5 14 k5), e3, Lo b7 (nq b7 15 kk7), Lo b6 (nq b6 15 kk6)]
      refine ⟨p1, p2', p3, p4, fun k' x hx => ?_⟩
      have hil : k' < (S i).length := by
        refine Nat.lt_of_not_le (fun q2 => ?_)
        rw [List.getElem?_eq_none q2] at hx
        cases hx
      have qb := i_nat (x := I b4 i) rfl p1
      rw [Lq _ (by omega)]
      exact p5 k' x hx
  · have := (i_eq t2 (i_nI (by omega))).mp c
    omega
/-! ===== the class: climbs that cost just so much ===== -/
/-- what is merged, and the other rows, lie below the row of a place -/
def LWb (I : jI) (b1 b2 b5 : Nat) (p m : Nat) : Prop := (∀ q, q < 25 → q ≠ p → 0 < (I b2 q).toInt → (I b1 q).toInt + (I b2 q).toInt ≤ (I b1 p).toInt) ∧ ∀ i, i < m → (I b5 i).toInt ≤ (I b1 p).toInt
theorem cap_bc {Z : jZ} {bb u9 : Nat} (kbb : jk Z bb 0) (h9 : jr Z bb 0 = some u9) : capN Z u9 = 1048576 := by
  unfold capN
  exact if_pos ⟨bb, kbb, h9⟩
theorem l_low {r : Int64} {k : Int} (h : r.toInt = k) (h0 : 0 ≤ k) : (r &&& (536870911 : Int64)).toInt = lo k := by
  have e : (r &&& (536870911 : Int64)).toBitVec = r.toBitVec &&& (536870911 : Int64).toBitVec := rfl
  have hn : (r &&& (536870911 : Int64)).toBitVec.toNat = r.toBitVec.toNat % 536870912 := by
    rw [e, BitVec.toNat_and]
    exact Nat.and_two_pow_sub_one_eq_mod _ 29
  have h1 : (r &&& (536870911 : Int64)).toInt = (r &&& (536870911 : Int64)).toBitVec.toInt := rfl
  have h2 : r.toInt = r.toBitVec.toInt := rfl
  have hl := r.toBitVec.isLt
  rw [h2, BitVec.toInt_eq_toNat_cond] at h
  rw [h1, BitVec.toInt_eq_toNat_cond, hn]
  unfold lo
  split at h <;> split <;> omega
theorem last_of {l : List Int} (h : l ≠ []) : ∃ p y, l = p ++ [y] := by
  rcases List.eq_nil_or_concat l with e | ⟨p, y, e⟩
  · exact absurd e h
  · exact ⟨p, y, by rw [e, List.concat_eq_append]⟩
theorem row_p {R : Nat → List Int} {p : Nat} {X : List Int} : (fun q => if q = p then X else R q) p = X := if_pos rfl
set_option maxHeartbeats 1000000 in
theorem r_X7_pushSummed {B : Nat × Nat} {T : Nat} {Z : jZ} {I : jI} {L : jL} (w_I : WD Z I) (bd : BUD B Z T) (v0 : Nat) (v1 : Int32) (v2 : Int64) (kv0 : jk Z v0 7) (b0 b1 b2 b4 b5 b6 b7 : Nat) (hc : RCs Z v0 b0 b1 b2 b4 b5 b6 b7) (p : Nat) (ev : v1.toInt = (p : Int)) (hp : p < 25) (hcap : capN Z v0 = 1048576) (hf : (I v0 3).toInt ≤ 1048575) (key : Int) (ek : v2.toInt = key) (k0 : 0 ≤ key) (acc : List Int) (hacc : ∀ k, k ∈ acc → 0 ≤ k ∧ cK k ≤ 999) (R : Nat → List Int) (hR : RRb I L b0 b1 b2 (fun q => if q = p then acc else R q)) (S : Nat → List Int) (m : Nat) (hS : MGb I L v0 b0 b4 b5 b6 b7 S m) (hcu : CUr I v0 b1 (fun q => if q = p then acc else R q) p) (hlw : LWb I b1 b2 b5 p m) {Q : jZ → jI → jL → Prop}
    (hQ : ∀ (Z' : jZ) (I' : jI) (L' : jL) (c0 : Nat) (acc' : List Int), ADD acc key acc' → WD Z' I' → BUD B Z' T → FR W7 Z I Z' I' → CP Z Z' → RO v0 Z I I' → RCs Z' v0 c0 b1 b2 b4 b5 b6 b7 → RRb I' L' c0 b1 b2 (fun q => if q = p then acc' else R q) → MGb I' L' v0 c0 b4 b5 b6 b7 S m → CUr I' v0 b1 (fun q => if q = p then acc' else R q) p → LWb I' b1 b2 b5 p m → I' b1 = I b1 → (c0 = b0 ∨ c0 ∉ Z.1) → (∀ x, x ∈ Z.1 → x ≠ b0 → L' x = L x) → Q Z' I' L') : f_X7_pushSummed B v0 v1 v2 Z I L Q := by
  have z0 : (0 : Int32).toInt = 0 := rfl
  have z1 : (1 : Int32).toInt = 1 := rfl
  have hcc := hc
  obtain ⟨q06, q07, q67, kk0, kk6, kk7, -, -, -⟩ := RC_ne w_I kv0 hc
  obtain ⟨g0, g1, g2, g4, g5, g6, g7⟩ := hc
  obtain ⟨d0, d1, d2, d4, d5, e0, e1, e2, e4, e5, k0', k1, k2, k4, k5, n1, n2, n4, n5, n12, n14, n15, n24, n25, n45, r1, r2, r3, r4, r5, r6⟩ := rows_at w_I kv0
  cases g0.symm.trans e0; cases g1.symm.trans e1; cases g2.symm.trans e2; cases g4.symm.trans e4; cases g5.symm.trans e5
  have push : ∀ acc' : List Int, acc' = acc ++ [key] → ADD acc key acc' → f_X7_pushSummed_b58 B Q v0 v1 v2 Z I L := fun acc' ea hA => by
    unfold f_X7_pushSummed_b58
    refine r_X7_pushS w_I bd v0 v1 v2 kv0 b0 b1 b2 b4 b5 b6 b7 hcc p ev hp (Or.inl ⟨hcap, hf⟩) key ek _ hR S m hS hcu (fun Z' I' L' c0 w' bd' f' cp' ro' a3 hc' hR' hS' hcu' hc0' hL' i1 i5 i2 => ?_)
    rw [up_twice, ← ea] at hR' hcu'
    refine hQ Z' I' L' c0 acc' hA w' bd' f' cp' ro' hc' hR' hS' hcu' ⟨fun q hq hqp h => ?_, fun i hi => ?_⟩ i1 hc0' hL'
    · rw [i2 q hqp] at h ⊢
      rw [i1]
      exact hlw.1 q hq hqp h
    · rw [i1, i5]
      exact hlw.2 i hi
  unfold f_X7_pushSummed
  refine r_X7_sizeAt v0 v1 b0 b1 b2 b4 b5 b6 b7 hcc p ev hp _ hR (fun r er => ?_)
  rw [if_pos rfl] at er
  refine ⟨fun c => ?_, fun c => ?_⟩
  · have c := (i_le er z0).mp c
    have e : acc = [] := List.eq_nil_of_length_eq_zero (by omega)
    exact push [key] (by rw [e]; rfl) (Or.inl ⟨e, rfl⟩)
  have c := (not_congr (i_le er z0)).mp c
  have hne : acc ≠ [] := fun q => by
    rw [q] at c
    exact c (Int.le_refl 0)
  obtain ⟨pre, y, ea⟩ := last_of hne
  have lacc : acc.length = pre.length + 1 := by rw [ea, List.length_append]; rfl
  obtain ⟨u1, u2⟩ := hcu
  rw [row_p] at u1
  have t3 : ((I v0 3) - (1 : Int32)).toInt = (I v0 3).toInt - 1 := i_sub rfl z1 (by omega) (by omega)
  have qb := i_nat (x := I b1 p) rfl u2
  have n3 : ((I v0 3) - (1 : Int32)).toNatClampNeg = (I b1 p).toNatClampNeg + pre.length := by have := i_nat t3 (by omega); omega
  have vi : vp_in ((I v0 3) - (1 : Int32)) (jlen Z b0) := vi_of t3 (by omega) (by omega)
  have ymem : y ∈ acc := by rw [ea]; exact List.mem_append_right _ List.mem_cons_self
  have hy := hacc y ymem
  have gy : acc[pre.length]? = some y := by rw [ea, List.getElem?_append_right (Nat.le_refl _), Nat.sub_self]; rfl
  have hRp := (hR p hp).2
  rw [row_p] at hRp
  have ly := hRp pre.length y gy
  intro b hb; cases e0.symm.trans hb
  refine ⟨vi, ?_⟩
  rw [n3]
  have cmp := l_eqz (l_mask ly hy.1) (l_mask ek k0)
  refine ⟨fun c1 => ?_, fun c1 => ?_⟩
  · have c1 := fun q => c1 (cmp.mpr q)
    refine push (acc ++ [key]) rfl (Or.inr ⟨pre, y, ea, Or.inr ⟨fun q => c1 ?_, by rw [ea]⟩⟩)
    unfold tp at q
    rw [q]
  · have c1 := cmp.mp c1
    have et : tp y = tp key := by unfold tp; omega
    intro b hb; cases e0.symm.trans hb
    refine ⟨vi, vi, fun L2 q2 => ?_⟩
    have lk := lo_rng key
    have yb : y < 2199023255552000 := by
      have := hy.2
      unfold cK at this
      omega
    have nv : (L b0 ((I b1 p).toNatClampNeg + pre.length) + (v2 &&& (536870911 : Int64))).toInt = y + lo key := l_add ly (l_low ek k0) (by omega) (by omega)
    have lo2 : ∀ x, x ≠ b0 → L2 x = L x := fun x hx => by rw [q2, jpL_ne hx]
    have at2 : (L2 b0 ((I b1 p).toNatClampNeg + pre.length)).toInt = y + lo key := by rw [q2, jpL_at]; exact nv
    have off2 : ∀ j, j ≠ (I b1 p).toNatClampNeg + pre.length → L2 b0 j = L b0 j := fun j hj => by rw [q2, jpL_off hj]
    refine hQ Z I L2 b0 (pre ++ [y + lo key]) (Or.inr ⟨pre, y, ea, Or.inl ⟨et, rfl⟩⟩) w_I bd FR.rf CP.rf (fun _ _ _ => rfl) hcc (fun q hq => ?_) ⟨hS.1, hS.2.1, hS.2.2.1, fun i hi => ?_⟩ ⟨?_, u2⟩ hlw rfl (Or.inl rfl) (fun x hx hb => lo2 x hb)
    · have h := hR q hq
      by_cases c9 : q = p
      · subst c9
        rw [row_p] at h ⊢
        refine ⟨by rw [h.1, lacc, List.length_append]; rfl, fun i x hx => ?_⟩
        by_cases hi : i < pre.length
        · rw [List.getElem?_append_left hi] at hx
          rw [off2 _ (by omega)]
          exact h.2 i x (by rw [ea, List.getElem?_append_left hi]; exact hx)
        · have hi2 : i = pre.length := by
            refine Classical.byContradiction (fun q9 => ?_)
            rw [List.getElem?_append_right (by omega), List.getElem?_eq_none (show [y + lo key].length ≤ i - pre.length by show 1 ≤ i - pre.length; omega)] at hx
            cases hx
          subst hi2
          rw [List.getElem?_append_right (Nat.le_refl _), Nat.sub_self] at hx
          have hx : some (y + lo key) = some x := hx
          rw [at2]
          exact Option.some.inj hx
      · have h : (I b2 q).toInt = ((R q).length : Int) ∧ ∀ (i : Nat) (x : Int), (R q)[i]? = some x → (L b0 ((I b1 q).toNatClampNeg + i)).toInt = x := by
          have h : (I b2 q).toInt = (((if q = p then acc else R q) : List Int).length : Int) ∧ ∀ (i : Nat) (x : Int), ((if q = p then acc else R q) : List Int)[i]? = some x → (L b0 ((I b1 q).toNatClampNeg + i)).toInt = x := h
          rw [if_neg c9] at h
          exact h
        show (I b2 q).toInt = (((if q = p then pre ++ [y + lo key] else R q) : List Int).length : Int) ∧ ∀ (i : Nat) (x : Int), ((if q = p then pre ++ [y + lo key] else R q) : List Int)[i]? = some x → (L2 b0 ((I b1 q).toNatClampNeg + i)).toInt = x
        rw [if_neg c9]
        refine ⟨h.1, fun i x hx => ?_⟩
        have hil : i < (R q).length := by
          refine Nat.lt_of_not_le (fun q9 => ?_)
          rw [List.getElem?_eq_none q9] at hx
          cases hx
        have r4q := (r4 q hq).2 (by omega)
        have lw := hlw.1 q hq c9 (by omega)
        have qb2 := i_nat (x := I b1 q) rfl r4q.1
        rw [off2 _ (by omega)]
        exact h.2 i x hx
    · obtain ⟨p1, p2, p3, p4, p5⟩ := hS.2.2.2 i hi
      have lw := hlw.2 i hi
      refine ⟨p1, p2, p3, by rw [lo2 b7 (fun e => q07 e.symm)]; exact p4, fun k x hx => ?_⟩
      have hil : k < (S i).length := by
        refine Nat.lt_of_not_le (fun q9 => ?_)
        rw [List.getElem?_eq_none q9] at hx
        cases hx
      have qb4 := i_nat (x := I b4 i) rfl p1
      rw [lo2 b6 (fun e => q06 e.symm), off2 _ (by omega)]
      exact p5 k x hx
    · rw [row_p, List.length_append]
      have : ([y + lo key] : List Int).length = 1 := rfl
      omega
theorem cnS_nil {S : Nat → List Int} : ∀ m, cnS S m = 0 → ∀ i, i < m → S i = [] := by
  intro m
  induction m with
  | zero => intro _ i hi; omega
  | succ m ih =>
    intro h i hi
    have h : cnS S m + (S m).length = 0 := h
    by_cases c : i = m
    · rw [c]; exact List.eq_nil_of_length_eq_zero (by omega)
    · exact ih (by omega) i (by omega)
theorem tk_nil {S : Nat → List Int} {w i : Nat} (h : S i = []) : tkS S w i = [] := by
  unfold tkS
  by_cases c : i = w
  · rw [if_pos c, h]; rfl
  · rw [if_neg c]; exact h
set_option maxHeartbeats 4000000 in
theorem kw_L9 {B : Nat × Nat} {T : Nat} {Z : jZ} {I : jI} {L : jL} (w_I : WD Z I) (bb u9 uR : Nat) (kbb : jk Z bb 0) (h9 : jr Z bb 0 = some u9) (ku9 : jk Z u9 7) (hR1 : jr Z bb 1 = some uR) (kR : jk Z uR 15) (b0 b1 b2 b4 b5 b6 b7 : Nat) (nR0 : uR ≠ b0) (nR7 : uR ≠ b7) (p : Nat) (hp : 1 ≤ p) (hp24 : p ≤ 24) (v1 v2 v3 : Int32) (e1v : v1.toInt = (p : Int)) (K cost : Int) (lu : Nat → Int) (e2v : v2.toInt = K - lu p) (hK : K ≤ 120) (hlu : 0 ≤ lu p) (e3v : v3.toInt = cost) (hcost : 0 ≤ cost ∧ cost ≤ 999) (Wt : Int → Int → Int) (B9 : Int) (hB9 : B9 < 536870912) (R : Nat → List Int) (m : Nat) (hm3 : m ≤ 3) (hst : (I b1 p).toInt ≤ 900000) {Q : jZ → jI → jL → Prop}
    (hQ : ∀ (Z' : jZ) (I' : jI) (L' : jL) (c0 : Nat) (acc : List Int), WD Z' I' → BUD B Z' T → FR W7 Z I Z' I' → CP Z Z' → RO u9 Z I I' → RCs Z' u9 c0 b1 b2 b4 b5 b6 b7 → RRb I' L' c0 b1 b2 (fun q => if q = p then acc else R q) → (I' u9 3).toInt = (I b1 p).toInt + (acc.length : Int) → (c0 = b0 ∨ c0 ∉ Z.1) → (∀ x, x ∈ Z.1 → x ≠ b0 → x ≠ b7 → L' x = L x) → TF (admR K cost lu (RCf (L uR)) p) Wt B9 acc → Q Z' I' L') :
    ∀ (n f : Nat) (v4 : Int32) (Z1 : jZ) (I1 : jI) (L1 : jL) (c0 : Nat) (acc : List Int) (S : Nat → List Int), f + 1 ≤ n → v4.toInt = (f : Int) → f = cnS S m → WD Z1 I1 → BUD B Z1 T → FR W7 Z I Z1 I1 → CP Z Z1 → RO u9 Z I I1 → RCs Z1 u9 c0 b1 b2 b4 b5 b6 b7 → RRb I1 L1 c0 b1 b2 (fun q => if q = p then acc else R q) → MGb I1 L1 u9 c0 b4 b5 b6 b7 S m → CUr I1 u9 b1 (fun q => if q = p then acc else R q) p → LWb I1 b1 b2 b5 p m → I1 b1 = I b1 → (c0 = b0 ∨ c0 ∉ Z.1) → (∀ x, x ∈ Z.1 → x ≠ b0 → x ≠ b7 → L1 x = L x) → (∀ i, srt (S i)) → (∀ i x, x ∈ S i → (0 ≤ x ∧ x < BIG) ∧ 1 ≤ lo x) → (∀ i, m ≤ i → S i = []) → TI (admR K cost lu (RCf (L uR)) p) Wt B9 acc S → f_X0_keepOnTheWay_L9 B Q n bb v1 v2 v3 v4 Z1 I1 L1 := by
  have z0 : (0 : Int32).toInt = 0 := rfl
  have zm : (-1 : Int32).toInt = -1 := by decide
  intro n
  induction n with
  | zero => intro f v4 Z1 I1 L1 c0 acc S hf; omega
  | succ n ih =>
    intro f v4 Z1 I1 L1 c0 acc S hf e4 ef w b fr cp ro hc hR hS hcu hlw eb1 hc0 hL hs hB hnil hT
    have kv1 : jk Z1 u9 7 := (fr.1 u9 7 ku9).1
    have h91 : jr Z1 bb 0 = some u9 := (fr.2.1 bb 0 0 kbb (by decide) (by decide)).trans h9
    have hR11 : jr Z1 bb 1 = some uR := (fr.2.1 bb 0 1 kbb (by decide) (by decide)).trans hR1
    have kbb1 : jk Z1 bb 0 := (fr.1 bb 0 kbb).1
    have l3 : (I1 u9 3).toInt = (I b1 p).toInt + (acc.length : Int) := by
      have t := hcu.1
      rw [row_p, eb1] at t
      omega
    have fin : (∀ i z, z ∈ S i → ¬ admR K cost lu (RCf (L uR)) p (cK z) (eK z)) → Q Z1 I1 L1 := fun h => hQ Z1 I1 L1 c0 acc w b fr cp ro hc hR l3 hc0 hL (TI_end hT h)
    unfold f_X0_keepOnTheWay_L9
    refine ⟨fun c => fin (fun i z hz => ?_), fun c => ⟨fun c2 => fin (fun i z hz => ?_), fun c2 => ?_⟩⟩
    · have c := (i_le e4 z0).mp c
      have e : cnS S m = 0 := by omega
      by_cases hi : i < m
      · rw [cnS_nil m e i hi] at hz
        exact absurd hz List.not_mem_nil
      · rw [hnil i (by omega)] at hz
        exact absurd hz List.not_mem_nil
    · have c2 := (i_lt e2v z0).mp c2
      have := (eK_rng z).1
      rintro (⟨q, -⟩ | ⟨-, q, -⟩) <;> omega
    have c := (not_congr (i_le e4 z0)).mp c
    have c2 := (not_congr (i_lt e2v z0)).mp c2
    obtain ⟨f', rfl⟩ : ∃ f', f = f' + 1 := ⟨f - 1, by omega⟩
    have hm : 1 ≤ m := by
      cases m with
      | zero => exact absurd ef (Nat.succ_ne_zero f')
      | succ m => omega
    have hcn : cnS S m ≠ 0 := by omega
    have hB' : ∀ i x, x ∈ S i → x < BIG := fun i x hx => (hB i x hx).1.2
    obtain ⟨hwl, hwm⟩ := wh_some hs hB' hm hcn
    have hmin : ∀ i z, z ∈ S i → hdB (S (wh (fun i => hdB (S i)) (m - 1))) ≤ z := fun i z hz => by
      by_cases hi : i < m
      · exact (wh_ne (j := m - 1) hs (by omega) hz (hB' i z hz)).2
      · rw [hnil i (by omega)] at hz
        exact absurd hz List.not_mem_nil
    obtain ⟨q06, q07, q67, -⟩ := RC_ne w kv1 hc
    intro b9 hb9; cases h91.symm.trans hb9
    have tk := fun (Q' : Int64 → jI → jL → Prop) => r_X7_takeS (Q := Q') w u9 kv1 c0 b1 b2 b4 b5 b6 b7 hc S m hS hm hcn hs hB'
    have hdrop := fun h => TI_drop hT (by omega) hwl h
    have hadd := fun acc' h0 ha hl => TI_add (acc' := acc') hB9 hT (by omega) hwl h0 ha hl hmin
    generalize wh (fun i => hdB (S i)) (m - 1) = wi at hwl hwm tk hmin hdrop hadd
    refine tk _ (fun r I6 L7 w6 f6 fi6 ro6 a3 a1 a2 a5 er hS6 lo6 => ?_)
    have hk := hB _ _ (hd_mem hwl)
    have hcn2 := (cnS_tk hwl m).2 hwm
    have rk := eK_rng (hdB (S wi))
    generalize hdB (S wi) = key at er hk rk hmin hdrop hadd
    have f16 := FR.trans w_I.1 w_I.2.1 fr f6
    have ro16 : RO u9 Z I I6 := RO.trans fr.1 ro ro6
    have hR6 : RRb I6 L7 c0 b1 b2 (fun q => if q = p then acc else R q) := fun q hq => by
      rw [a1, a2, lo6 c0 q07]
      exact hR q hq
    have hcu6 : CUr I6 u9 b1 (fun q => if q = p then acc else R q) p := by
      unfold CUr
      rw [a1, a3]
      exact hcu
    have hlw6 : LWb I6 b1 b2 b5 p m := by
      unfold LWb
      rw [a1, a2, a5]
      exact hlw
    have hL6 : ∀ x, x ∈ Z.1 → x ≠ b0 → x ≠ b7 → L7 x = L x := fun x hx h1 h2 => (lo6 x h2).trans (hL x hx h1 h2)
    have hs' : ∀ i, srt (tkS S wi i) := tk_srt hs
    have hB6 : ∀ i x, x ∈ tkS S wi i → (0 ≤ x ∧ x < BIG) ∧ 1 ≤ lo x := fun i x hx => hB i x (tk_mem hx)
    have hnil6 : ∀ i, m ≤ i → tkS S wi i = [] := fun i hi => tk_nil (hnil i hi)
    have r4 := i_rng v4
    have nx : ∀ x : Int32, x = v4 + (-1) → x.toInt = (f' : Int) := fun x ex => by
      rw [ex]
      exact (i_add e4 zm (by omega) (by omega)).trans (by omega)
    have ck0 : 0 ≤ cK key := by unfold cK; omega
    have skip : ¬ admR K cost lu (RCf (L uR)) p (cK key) (eK key) → f_X0_keepOnTheWay_b71 B (f_X0_keepOnTheWay_L9 B Q n) Q bb v1 v2 v3 v4 Z1 I6 L7 := fun hn => by
      unfold f_X0_keepOnTheWay_b71
      intro x ex
      exact ih f' x Z1 I6 L7 c0 acc (tkS S wi) (by omega) (nx x ex) (by omega) w6 b f16 cp ro16 hc hR6 hS6 hcu6 hlw6 (a1.trans eb1) hc0 hL6 hs' hB6 hnil6 (hdrop hn)
    refine c_costIn er hk.1.1 (fun r18 e18 => ?_)
    intro x19 ex19
    have t19 : x19.toInt = cost - cK key := by
      have rc : cK key ≤ 4194304 := by
        have := hk.1.2
        unfold cK BIG at *
        omega
      rw [ex19]
      exact i_sub e3v e18 (by omega) (by omega)
    refine ⟨fun c3 => ?_, fun c3 => ?_⟩
    · have c3 := (i_le z0 t19).mp c3
      refine c_effortIn er hk.1.1 (fun r27 e27 => ⟨fun c4 => ?_, fun c4 => ?_⟩)
      · have c4 := (i_lt e2v e27).mp c4
        exact skip (by rintro (⟨q, -⟩ | ⟨-, q, -⟩) <;> omega)
      · have c4 := (not_congr (i_lt e2v e27)).mp c4
        have uR7 : L7 uR = L uR := hL6 uR kR.1 nR0 nR7
        refine r_X0_isInReach bb uR hR11 v1 x19 p (cost - cK key).toNat e1v hp24 (by rw [t19]; omega) (by omega) (fun r35 hr35 => ⟨fun c5 => ?_, fun c5 => ?_⟩)
        · refine skip ?_
          rcases hr35 with ⟨q, -⟩ | ⟨-, q⟩
          · exact absurd c5 q
          · rw [uR7] at q
            rintro (⟨q1, -⟩ | ⟨-, -, -, q1⟩)
            · omega
            · exact q q1.2.2
        · have hrb : rb (L uR) p (cost - cK key).toNat := by
            rcases hr35 with ⟨-, q⟩ | ⟨q, -⟩
            · rw [uR7] at q
              exact q
            · exact absurd q c5
          have hadm : admR K cost lu (RCf (L uR)) p (cK key) (eK key) := Or.inr ⟨hp, by omega, by omega, by omega, by omega, hrb⟩
          have hk9 : ∀ k, k ∈ acc → 0 ≤ k ∧ cK k ≤ 999 ∧ eK k ≤ 120 := fun k hk => by
            obtain ⟨k1, k2, -⟩ := hT.1 k hk
            rcases k2 with ⟨q, -⟩ | ⟨-, q1, q2, -⟩ <;> omega
          have la := tp_len hT.2.1 hk9
          intro b9 hb9; cases h91.symm.trans hb9
          refine r_X7_pushSummed w6 b u9 v1 r kv1 c0 b1 b2 b4 b5 b6 b7 hc p e1v (by omega) (cap_bc kbb1 h91) (by rw [a3]; omega) key er hk.1.1 acc (fun k hk => ⟨(hk9 k hk).1, (hk9 k hk).2.1⟩) R hR6 _ m hS6 hcu6 hlw6 (fun Z9 I9 L9 c9 acc' hA w9 b9 f9 cp9 ro9 hc9 hR9 hS9 hcu9 hlw9 eb9 hc09 hl9 => ?_)
          unfold f_X0_keepOnTheWay_b71
          intro x ex
          refine ih f' x Z9 I9 L9 c9 acc' (tkS S wi) (by omega) (nx x ex) (by omega) w9 b9 (FR.trans w_I.1 w_I.2.1 f16 f9) (CP.trans fr.1 cp cp9) (RO.trans fr.1 ro16 ro9) hc9 hR9 hS9 hcu9 hlw9 (eb9.trans (a1.trans eb1)) ?_ ?_ hs' hB6 hnil6 (hadd acc' hk.1.1 hadm hk.2 hA)
          · rcases hc09 with q | q
            · rw [q]; exact hc0
            · exact Or.inr (fun q2 => q (jext_mem fr.1 q2))
          · intro x hx h1 h2
            refine (hl9 x (jext_mem fr.1 hx) (fun q => ?_)).trans (hL6 x hx h1 h2)
            rcases hc0 with q2 | q2
            · exact h1 (q.trans q2)
            · exact q2 (q ▸ hx)
    · have c3 := (not_congr (i_le z0 t19)).mp c3
      refine hQ Z1 I6 L7 c0 acc w6 b f16 cp ro16 hc hR6 (by rw [a3]; exact l3) hc0 hL6 (TI_end hT (fun i z hz => ?_))
      have := cK_mono (hmin i z hz)
      rintro (⟨q, -⟩ | ⟨-, -, q, -⟩) <;> omega
/-- moves that leap over no STEP that must be trodden -/
def Mm (lp : Nat) (op : Nat → Prop) (mu : Int) (p f : Nat) : Prop := alw lp op p f ∧ ¬ ((p : Int) - (f : Int) < mu + 1 ∧ mu + 1 < (p : Int))
def sL (far : Nat) (g : Nat → Int) : Int := (if 1 < far then g 1 else 0) + (if 2 < far then g 2 else 0) + (if 3 < far then g 3 else 0)
theorem sL_1 {g : Nat → Int} : sL 1 g = 0 := rfl
theorem sL_S {far : Nat} {g : Nat → Int} (h1 : 1 ≤ far) (h3 : far ≤ 3) : sL (far + 1) g = sL far g + g far := by
  rcases (show far = 1 ∨ far = 2 ∨ far = 3 by omega) with e | e | e <;> subst e <;> simp [sL]
theorem sL_end {far : Nat} {g : Nat → Int} (h4 : far ≤ 4) (h : ∀ f, far ≤ f → f ≤ 3 → g f = 0) : s3 g = sL far g := by
  rcases (show far = 0 ∨ far = 1 ∨ far = 2 ∨ far = 3 ∨ far = 4 by omega) with e | e | e | e | e
  · subst e; simp [sL, s3, h 1 (by decide) (by decide), h 2 (by decide) (by decide), h 3 (by decide) (by decide)]
  · subst e; simp [sL, s3, h 1 (by decide) (by decide), h 2 (by decide) (by decide), h 3 (by decide) (by decide)]
  · subst e; simp [sL, s3, h 2 (by decide) (by decide), h 3 (by decide) (by decide)]
  · subst e; simp [sL, s3, h 3 (by decide) (by decide)]
  · subst e; simp [sL, s3]
def SRg (M : Nat → Nat → Prop) (C E : Nat → Nat → Int) (R : Nat → List Int) (p far m : Nat) (S : Nat → List Int) : Prop := (∀ i, m ≤ i → S i = []) ∧ (∀ c e, sS (fun i => ms (S i) c e) = sL far (fun f => sel (M p f) (ms (R (p - f)) (c - C p f) (e - E p f)) 0)) ∧ sS (fun i => tot (S i)) = sL far (fun f => sel (M p f) (tot (R (p - f))) 0) ∧ (∀ i, srt (S i)) ∧ ∀ i x, x ∈ S i → (0 ≤ x ∧ x < BIG) ∧ 1 ≤ lo x
theorem SRg_0 {M : Nat → Nat → Prop} {C E : Nat → Nat → Int} {R : Nat → List Int} {p : Nat} : SRg M C E R p 1 0 (fun _ => []) := ⟨fun _ _ => rfl, fun _ _ => rfl, rfl, fun _ => List.Pairwise.nil, fun _ _ h => absurd h List.not_mem_nil⟩
theorem SRg_skip {M : Nat → Nat → Prop} {C E : Nat → Nat → Int} {R : Nat → List Int} {p far m : Nat} {S : Nat → List Int} (h1 : 1 ≤ far) (h3 : far ≤ 3) (h : SRg M C E R p far m S) (hz : ¬ M p far ∨ R (p - far) = []) : SRg M C E R p (far + 1) m S := by
  obtain ⟨a1, a2, a3, a4⟩ := h
  refine ⟨a1, fun c e => ?_, ?_, a4⟩
  · rw [a2, sL_S h1 h3]
    have z : sel (M p far) (ms (R (p - far)) (c - C p far) (e - E p far)) 0 = 0 := by
      by_cases hm : M p far
      · rcases hz with q | q
        · exact absurd hm q
        · rw [sel_y hm, q]; rfl
      · exact sel_n hm
    rw [z]; omega
  · rw [a3, sL_S h1 h3]
    have z : sel (M p far) (tot (R (p - far))) 0 = 0 := by
      by_cases hm : M p far
      · rcases hz with q | q
        · exact absurd hm q
        · rw [sel_y hm, q]; rfl
      · exact sel_n hm
    rw [z]; omega
theorem sS_put {S : Nat → List Int} {m : Nat} {X : List Int} {F : List Int → Int} (hm : m < 3) (h0 : F [] = 0) (hn : ∀ i, m ≤ i → S i = []) : sS (fun i => F (if i = m then X else S i)) = sS (fun i => F (S i)) + F X := by
  show F (if 0 = m then X else S 0) + F (if 1 = m then X else S 1) + F (if 2 = m then X else S 2) = F (S 0) + F (S 1) + F (S 2) + F X
  have z : F (S m) = 0 := by rw [hn m (Nat.le_refl m)]; exact h0
  rcases (show m = 0 ∨ m = 1 ∨ m = 2 by omega) with e | e | e
  · subst e
    rw [if_pos rfl, if_neg (by decide), if_neg (by decide)]; omega
  · subst e
    rw [if_neg (by decide), if_pos rfl, if_neg (by decide)]; omega
  · subst e
    rw [if_neg (by decide), if_neg (by decide), if_pos rfl]; omega
theorem SRg_add {M : Nat → Nat → Prop} {C E : Nat → Nat → Int} {R : Nat → List Int} {p far m : Nat} {S : Nat → List Int} (h1 : 1 ≤ far) (h3 : far ≤ 3) (hm3 : m < 3) (h : SRg M C E R p far m S) (hm : M p far) (hC : 0 ≤ C p far ∧ C p far ≤ 297) (hE : 0 ≤ E p far ∧ E p far ≤ 600) (hs : srt (R (p - far))) (hx : ∀ k, k ∈ R (p - far) → 0 ≤ k ∧ cK k ≤ 999 ∧ eK k ≤ 120 ∧ 1 ≤ lo k) : SRg M C E R p (far + 1) (m + 1) (fun i => if i = m then (R (p - far)).map (fun x => x + mvE C E p far) else S i) := by
  obtain ⟨a1, a2, a3, a4, a5⟩ := h
  have hx9 : ∀ k, k ∈ R (p - far) → eK k + E p far ≤ 4095 := fun k hk => by have := hx k hk; omega
  have off : ∀ i, i ≠ m → (fun i => if i = m then (R (p - far)).map (fun x => x + mvE C E p far) else S i) i = S i := fun i hi => if_neg hi
  have at_ : (fun i => if i = m then (R (p - far)).map (fun x => x + mvE C E p far) else S i) m = (R (p - far)).map (fun x => x + mvE C E p far) := if_pos rfl
  refine ⟨fun i hi => ?_, fun c e => ?_, ?_, fun i => ?_, fun i x hi => ?_⟩
  · rw [off i (by omega)]
    exact a1 i (by omega)
  · rw [sS_put (F := fun l => ms l c e) hm3 rfl a1, a2, sL_S h1 h3, sel_y hm]
    show _ + ms ((R (p - far)).map (fun x => x + (C p far * 2199023255552 + E p far * 536870912))) c e = _
    rw [ms_map hC.1 hE.1 hx9]
  · rw [sS_put (F := tot) hm3 rfl a1, a3, sL_S h1 h3, sel_y hm]
    show _ + tot ((R (p - far)).map (fun x => x + (C p far * 2199023255552 + E p far * 536870912))) = _
    rw [tot_map hC.1 hE.1 hx9]
  · by_cases c : i = m
    · rw [c, at_]
      exact srt_map hs
    · rw [off i c]
      exact a4 i
  · by_cases c : i = m
    · rw [c, at_] at hi
      obtain ⟨k, hk, ek⟩ := List.mem_map.mp hi
      obtain ⟨k0, k1, k2, k3⟩ := hx k hk
      obtain ⟨-, -, m3⟩ := mv_key hC.1 hE.1 (hx9 k hk)
      have ek : k + (C p far * 2199023255552 + E p far * 536870912) = x := ek
      rw [← ek, m3]
      unfold cK at k1
      refine ⟨⟨by omega, ?_⟩, k3⟩
      unfold BIG
      omega
    · rw [off i c] at hi
      exact a5 i x hi
set_option maxHeartbeats 4000000 in
theorem c_feedM_L8 {Z : jZ} {I : jI} {L : jL} (w_I : WD Z I) (v0 v1 : Nat) (v2 : Int32) (kv0 : jk Z v0 6) (kv1 : jk Z v1 7) (b0 b1 b2 b4 b5 b6 b7 : Nat) (hc : RCs Z v1 b0 b1 b2 b4 b5 b6 b7) (u4 u5 u6 u7 lp n : Nat) (op : Nat → Prop) (C E : Nat → Nat → Int) (lu : Nat → Int) (hM : MVs Z I v0 u4 u5 u6 u7 lp n op C E lu) (hlp : lp ≤ 3) (hn : n ≤ 24) (hC : ∀ p f, 0 ≤ C p f ∧ C p f ≤ 297) (hE : ∀ p f, 0 ≤ E p f ∧ E p f ≤ 600) (p : Nat) (hp : 1 ≤ p) (hpn : p ≤ n) (e2v : v2.toInt = (p : Int)) (v5 : Int32) (mu : Int) (e5v : v5.toInt = mu) (hmu : -1 ≤ mu ∧ mu ≤ 23) (R : Nat → List Int) (hsR : ∀ q, q < p → srt (R q)) (hxR : ∀ q k, q < p → k ∈ R q → 0 ≤ k ∧ cK k ≤ 999 ∧ eK k ≤ 120 ∧ 1 ≤ lo k) {Q : jI → jL → Prop}
    (hQ : ∀ (I' : jI) (L' : jL) (S : Nat → List Int) (m : Nat), WD Z I' → FR W7 Z I Z I' → RO v1 Z I I' → I' v1 3 = I v1 3 → RRb I' L' b0 b1 b2 R → MGb I' L' v1 b0 b4 b5 b6 b7 S m → CUr I' v1 b1 R p → SRm (Mm lp op mu) C E R p S → (∀ i, m ≤ i → S i = []) → (∀ i, srt (S i)) → (∀ i x, x ∈ S i → (0 ≤ x ∧ x < BIG) ∧ 1 ≤ lo x) → (∀ x, x ≠ b6 → x ≠ b7 → L' x = L x) → Q I' L') :
    ∀ (k far m : Nat) (v6 : Int32) (I1 : jI) (L1 : jL) (S : Nat → List Int), 1 ≤ far → far ≤ 4 → 5 ≤ k + far → v6.toInt = (far : Int) → m + 1 ≤ far → SRg (Mm lp op mu) C E R p far m S → WD Z I1 → FR W7 Z I Z I1 → RO v1 Z I I1 → I1 v1 3 = I v1 3 → RRb I1 L1 b0 b1 b2 R → MGb I1 L1 v1 b0 b4 b5 b6 b7 S m → CUr I1 v1 b1 R p → (∀ x, x ≠ b6 → x ≠ b7 → L1 x = L x) → f_X6_feed_L8 Z Q k v0 v1 v2 (-536870912 : Int64) v5 v6 I1 L1 := by
  have z0 : (0 : Int32).toInt = 0 := rfl
  have z1 : (1 : Int32).toInt = 1 := rfl
  intro k
  induction k with
  | zero => intro far m v6 I1 L1 S h1 h4 hk; omega
  | succ k ih =>
    intro far m v6 I1 L1 S h1 h4 hk e6v hm hS w fr ro a3 hR hMG hcu hL
    have hM1 := MVs_fr w_I kv0 fr hM
    obtain ⟨⟨g4, g5, g6, g7⟩, m3, m15, mo, mm, mu'⟩ := hM1
    have done : (∀ f, alw lp op p f → f < far) → Q I1 L1 := fun hd => by
      obtain ⟨s1, s2, s3', s4, s5⟩ := hS
      have no : ∀ f, far ≤ f → ¬ Mm lp op mu p f := fun f hf hmm => by have := hd f hmm.1; omega
      refine hQ I1 L1 S m w fr ro a3 hR hMG hcu ⟨fun c e => ?_, ?_⟩ s1 s4 s5 hL
      · rw [s2, sL_end h4 (fun f hf _ => sel_n (no f hf))]
      · rw [s3', sL_end h4 (fun f hf _ => sel_n (no f hf))]
    unfold f_X6_feed_L8
    refine ⟨fun c => done (fun f ha => ?_), fun c => ⟨fun c2 => done (fun f ha => ?_), fun c2 => ?_⟩⟩
    · have c := (i_lt m3 e6v).mp c
      have := ha.2.1
      omega
    · have c2 := (i_lt e2v e6v).mp c2
      have := ha.2.2.1
      omega
    have c := (not_congr (i_lt m3 e6v)).mp c
    have c2 := (not_congr (i_lt e2v e6v)).mp c2
    have qn : v2.toNatClampNeg = p := by have := i_nat e2v (by omega); omega
    intro b h; cases g6.symm.trans h
    rw [qn]
    refine ⟨vi_of e2v (by omega) (by omega), fun c3 => done (fun f ha => absurd c3 ((mo p hpn).mpr ha.2.2.2)), fun c3 => ?_⟩
    have ho : op p := (mo p hpn).mp c3
    have ha : alw lp op p far := ⟨h1, by omega, by omega, ho⟩
    have tf := i_sub e2v e6v (by omega) (by omega)
    have t5 := i_add e5v z1 (by omega) (by omega)
    have nx : ∀ x : Int32, x = v6 + 1 → x.toInt = ((far + 1 : Nat) : Int) := fun x ex => by
      rw [ex]
      exact (i_add e6v z1 (by omega) (by omega)).trans (by omega)
    have go : ¬ ((p : Int) - (far : Int) < mu + 1 ∧ mu + 1 < (p : Int)) → f_X6_feed_b55 (f_X6_feed_L8 Z Q k) Z Q v0 v1 v2 (-536870912 : Int64) v5 v6 I1 L1 := fun hno => by
      have hmm : Mm lp op mu p far := ⟨ha, hno⟩
      unfold f_X6_feed_b55 f_X6_feed_b56
      refine ⟨fun c5 => absurd rfl c5, fun _ => ?_⟩
      obtain ⟨mc, me⟩ := mm p far ha hpn
      refine c_keyOf v0 v2 v6 u4 u5 g4 g5 p far e2v e6v ⟨hp, by omega⟩ ⟨h1, by omega⟩ mc me (hC p far) (hE p far) (fun r er => ?_)
      have er9 : (r &&& (-536870912 : Int64)).toInt = mvE C E p far := by
        have c9 := hC p far
        have e9 := hE p far
        have l := btP_less (show p ≤ 24 by omega) p hp (Nat.le_refl _)
        have b0 : btP (p - p) = 16777216 := by rw [Nat.sub_self]; rfl
        have bp := btP_pos p
        have k0 : 0 ≤ mvK C E p far := by unfold mvK; omega
        rw [l_mask er k0]
        unfold mvK mvE
        omega
      generalize (r &&& (-536870912 : Int64)) = r9 at er9 ⊢
      have hx9 := fun k hk => hxR (p - far) k (by omega) hk
      refine r_X7_merge w v1 (v2 - v6) r9 kv1 b0 b1 b2 b4 b5 b6 b7 hc (p - far) (tf.trans (by omega)) (by omega) R hR S m hMG (by omega) _ er9 (fun x hx => ?_) (fun e => ?_) (fun I' L' w' f' fi' ro' a3' a1' hne hR' hMG' lo' => ?_)
      · obtain ⟨k0, k1, -, -⟩ := hx9 x hx
        have c9 := hC p far
        have e9 := hE p far
        unfold cK at k1
        unfold mvE BIG
        omega
      · unfold f_X6_feed_b80
        intro x ex
        exact ih (far + 1) m x I1 L1 S (by omega) (by omega) (by omega) (nx x ex) (by omega) (SRg_skip h1 (by omega) hS (Or.inr e)) w fr ro a3 hR hMG hcu hL
      · unfold f_X6_feed_b80
        intro x ex
        refine ih (far + 1) (m + 1) x I' L' _ (by omega) (by omega) (by omega) (nx x ex) (by omega) (SRg_add h1 (by omega) (by omega) hS hmm (hC p far) (hE p far) (hsR _ (by omega)) hx9) w' (FR.trans w_I.1 w_I.2.1 fr f') (RO.trans jext_rfl ro ro') (a3'.trans a3) hR' hMG' ?_ (fun x h6 h7 => (lo' x h6 h7).trans (hL x h6 h7))
        unfold CUr
        rw [a1', a3']
        exact hcu
    refine ⟨fun c4 => ?_, fun c4 => ⟨fun c5 => ?_, fun c5 => ?_⟩⟩
    · have c4 := (i_le t5 tf).mp c4
      exact go (fun q => by omega)
    · have c5 := (i_le e2v t5).mp c5
      exact go (fun q => by omega)
    · have c4 := (not_congr (i_le t5 tf)).mp c4
      have c5 := (not_congr (i_le e2v t5)).mp c5
      unfold f_X6_feed_b56
      refine ⟨fun _ => ?_, fun c6 => absurd c6 (by decide)⟩
      unfold f_X6_feed_b80
      intro x ex
      exact ih (far + 1) m x I1 L1 S (by omega) (by omega) (by omega) (nx x ex) (by omega) (SRg_skip h1 (by omega) hS (Or.inl (fun q => q.2 ⟨by omega, by omega⟩))) w fr ro a3 hR hMG hcu hL
theorem r_X6_feedM {Z : jZ} {I : jI} {L : jL} (w_I : WD Z I) (v0 v1 : Nat) (v2 : Int32) (kv0 : jk Z v0 6) (kv1 : jk Z v1 7) (b0 b1 b2 b4 b5 b6 b7 : Nat) (hc : RCs Z v1 b0 b1 b2 b4 b5 b6 b7) (u4 u5 u6 u7 lp n : Nat) (op : Nat → Prop) (C E : Nat → Nat → Int) (lu : Nat → Int) (hM : MVs Z I v0 u4 u5 u6 u7 lp n op C E lu) (hlp : lp ≤ 3) (hn : n ≤ 24) (hC : ∀ p f, 0 ≤ C p f ∧ C p f ≤ 297) (hE : ∀ p f, 0 ≤ E p f ∧ E p f ≤ 600) (p : Nat) (hp : 1 ≤ p) (hpn : p ≤ n) (e2v : v2.toInt = (p : Int)) (v5 : Int32) (mu : Int) (e5v : v5.toInt = mu) (hmu : -1 ≤ mu ∧ mu ≤ 23) (R : Nat → List Int) (hR : RRb I L b0 b1 b2 R) (hsR : ∀ q, q < p → srt (R q)) (hxR : ∀ q k, q < p → k ∈ R q → 0 ≤ k ∧ cK k ≤ 999 ∧ eK k ≤ 120 ∧ 1 ≤ lo k) {Q : jI → jL → Prop}
    (hQ : ∀ (I' : jI) (L' : jL) (S : Nat → List Int) (m : Nat), WD Z I' → FR W7 Z I Z I' → RO v1 Z I I' → I' v1 3 = I v1 3 → RRb I' L' b0 b1 b2 (fun q => if q = p then [] else R q) → MGb I' L' v1 b0 b4 b5 b6 b7 S m → CUr I' v1 b1 (fun q => if q = p then [] else R q) p → SRm (Mm lp op mu) C E (fun q => if q = p then [] else R q) p S → (∀ i, m ≤ i → S i = []) → (∀ i, srt (S i)) → (∀ i x, x ∈ S i → (0 ≤ x ∧ x < BIG) ∧ 1 ≤ lo x) → (∀ x, x ≠ b6 → x ≠ b7 → L' x = L x) → Q I' L') : f_X6_feed v0 v1 v2 (-536870912 : Int64) v5 Z I L Q := by
  unfold f_X6_feed
  have lo' : ∀ q, q < p → (fun q => if q = p then ([] : List Int) else R q) q = R q := fun q hq => if_neg (by omega)
  refine r_X7_start w_I v1 v2 kv1 b0 b1 b2 b4 b5 b6 b7 hc p e2v (by omega) R hR (fun I2 w2 f2 p2 o2 a3 hR2 hS2 hcu2 => ?_)
  refine ⟨5, c_feedM_L8 w_I v0 v1 v2 kv0 kv1 b0 b1 b2 b4 b5 b6 b7 hc u4 u5 u6 u7 lp n op C E lu hM hlp hn hC hE p hp hpn e2v v5 mu e5v hmu _ (fun q hq => ?_) (fun q k hq hk => ?_) hQ 5 1 0 1 I2 L (fun _ => []) (Nat.le_refl _) (by omega) (by omega) rfl (Nat.le_refl _) SRg_0 w2 f2 o2 a3 hR2 hS2 hcu2 (fun _ _ _ => rfl)⟩
  · show srt ((fun q => if q = p then ([] : List Int) else R q) q)
    rw [lo' q hq]
    exact hsR q hq
  · have hk : k ∈ (fun q => if q = p then ([] : List Int) else R q) q := hk
    rw [lo' q hq] at hk
    exact hxR q k hq hk
theorem TRw_srt {M : Nat → Nat → Prop} {C E : Nat → Nat → Int} {K cost : Int} {lu : Nat → Int} {RC : Nat → Int → Prop} {q : Nat} {l : List Int} (h : TRw M C E K cost lu RC q l) : srt l := h.2.1.imp (fun {a b} q => by
  have q : tp a < tp b := q
  unfold tp at q
  omega)
def fbl : List Int := [0, 1, 2, 4, 8, 15, 28, 52, 96, 177, 326, 600, 1104, 2031, 3736, 6872, 12640, 23249, 42762, 78652, 144664, 265664, 386664, 507664, 628664, 749664]
def fbn (p : Nat) : Int := fbl.getD p 0
theorem fbn_rec : ∀ p, p < 25 → fbn p + (if tb p ≤ 121000 then tb p else 121000) ≤ fbn (p + 1) ∧ fbn p ≤ 628664 := by decide
theorem ta_L106 {B : Nat × Nat} {Z : jZ} {I : jI} (w : WD Z I) (bb v0 u9 : Nat) (kbb : jk Z bb 0) (h9 : jr Z bb 0 = some u9) (k9 : jk Z u9 7) (b0 b1 b2 b4 b5 b6 b7 : Nat) (hc : RCs Z u9 b0 b1 b2 b4 b5 b6 b7) (n : Nat) (hnv : (I v0 15).toInt = (n : Int)) (hn : n ≤ 24) (R : Nat → List Int) (hk0 : ∀ k, k ∈ R n → 0 ≤ k) (ht : tot (R n) ≤ 1389537) (hlen : (R n).length ≤ 121000) {Q : Int64 → jZ → jI → jL → Prop} (hQ : ∀ (r : Int64) (L' : jL), r.toInt = tot (R n) → Q r Z I L') :
    ∀ (k i : Nat) (v4 : Int64) (v6 : Int32) (L : jL), (R n).length + 1 ≤ k + i → i ≤ (R n).length → v6.toInt = (i : Int) → v4.toInt = tot ((R n).take i) → RRb I L b0 b1 b2 R → f_X0_tally_L106 B Q k bb v0 v4 v6 Z I L := by
  have z1 : (1 : Int32).toInt = 1 := rfl
  obtain ⟨q06, q07, q67, kk0, -⟩ := RC_ne w k9 hc
  have nb : b0 ≠ bb := ks_ne kk0 kbb (by decide)
  intro k
  induction k with
  | zero => intro i v4 v6 L hk h1; omega
  | succ k ih =>
    intro i v4 v6 L hk h1 e6 e4 hR
    unfold f_X0_tally_L106
    intro b hb; cases h9.symm.trans hb
    refine r_X7_sizeAt u9 (I v0 15) b0 b1 b2 b4 b5 b6 b7 hc n hnv (by omega) R hR (fun r er => ⟨fun c => ?_, fun c => ?_⟩)
    · have c := (i_le er e6).mp c
      have ei : i = (R n).length := by omega
      refine hQ v4 L ?_
      rw [e4, ei, List.take_length]
    have c := (not_congr (i_le er e6)).mp c
    have hi : i < (R n).length := by omega
    have ek : (R n)[i]? = some (R n)[i] := List.getElem?_eq_getElem hi
    have hmem : (R n)[i] ∈ R n := List.getElem_mem hi
    intro b hb; cases h9.symm.trans hb
    refine r_X7_keyAt w u9 (I v0 15) v6 k9 b0 b1 b2 b4 b5 b6 b7 hc n i (by omega) hnv e6 R hR _ ek (fun r19 e19 => ?_)
    intro x20 e20 x21 e21
    have l20 : x20.toInt = lo (R n)[i] := by rw [e20]; exact l_low e19 (hk0 _ hmem)
    have es : tot ((R n).take (i + 1)) = tot ((R n).take i) + lo (R n)[i] := by
      rw [List.take_succ_eq_append_getElem hi, tot_app]
      show _ + (lo (R n)[i] + 0) = _
      omega
    have le : tot ((R n).take i) ≤ tot (R n) := by
      have e := tot_app (a := (R n).take i) (b := (R n).drop i)
      rw [List.take_append_drop] at e
      have := tot_nn (l := (R n).drop i)
      omega
    have nn := tot_nn (l := (R n).take i)
    have lr := lo_rng (R n)[i]
    have t21 : x21.toInt = tot ((R n).take (i + 1)) := by
      rw [e21, es]
      exact l_add e4 l20 (by omega) (by omega)
    have go : ∀ s1 : Int64, f_X0_tally_b163 B (f_X0_tally_L106 B Q k) Q bb v0 x21 v6 bb s1 Z I L := fun s1 => by
      unfold f_X0_tally_b163
      intro L1 q1 x2 ex2
      refine ih (i + 1) x21 x2 L1 (by omega) (by omega) (by rw [ex2]; exact (i_add e6 z1 (by omega) (by omega)).trans (by omega)) t21 (fun q hq => ?_)
      rw [q1, jpL_ne nb]
      exact hR q hq
    exact ⟨fun _ => go _, fun _ => go _⟩
set_option maxHeartbeats 4000000 in
theorem ta_L52 {B : Nat × Nat} {T : Nat} {Z : jZ} {I : jI} {L : jL} (w_I : WD Z I) (bb v0 : Nat) (kv0 : jk Z v0 6) (kbb : jk Z bb 0) (u9 uR : Nat) (h9 : jr Z bb 0 = some u9) (ku9 : jk Z u9 7) (hR1 : jr Z bb 1 = some uR) (kR : jk Z uR 15) (b1 b2 b4 b5 b6 b7 : Nat) (nR6 : uR ≠ b6) (nR7 : uR ≠ b7) (u4 u5 u6 u7 lp n : Nat) (op : Nat → Prop) (C E : Nat → Nat → Int) (lu : Nat → Int) (hM : MVs Z I v0 u4 u5 u6 u7 lp n op C E lu) (hlp : lp ≤ 3) (hn1 : 1 ≤ n) (hn : n ≤ 24) (hC : ∀ p f, 0 ≤ C p f ∧ C p f ≤ 297) (hE : ∀ p f, 0 ≤ E p f ∧ E p f ≤ 600) (h0 : op 0) (hu : LUs lp n op E lu) (hu9 : ∀ q, lu q ≤ 2000000) (K cost mu : Int) (eK' : (I v0 1).toInt = K) (hK : 0 ≤ K ∧ K ≤ 120) (v2 v3 : Int32) (e2 : v2.toInt = cost) (hcost : 0 ≤ cost ∧ cost ≤ 999) (e3 : v3.toInt = mu) (hmu : -1 ≤ mu ∧ mu ≤ 23) (hrc : RCd lp n op C (RCf (L uR))) {Q : Int64 → jZ → jI → jL → Prop}
    (hQ : ∀ (r : Int64) (Z' : jZ) (I' : jI) (L' : jL) (l : List Int), WD Z' I' → BUD B Z' T → FR W7 Z I Z' I' → CP Z Z' → TRw (Mm lp op mu) C E K cost lu (RCf (L uR)) n l → r.toInt = tot l → Q r Z' I' L') :
    ∀ (k p : Nat) (v4 : Int32) (Z1 : jZ) (I1 : jI) (L1 : jL) (c0 : Nat) (R : Nat → List Int), n + 2 ≤ k + p → 1 ≤ p → p ≤ n + 1 → v4.toInt = (p : Int) → WD Z1 I1 → BUD B Z1 T → FR W7 Z I Z1 I1 → CP Z Z1 → (I1 u9 3).toInt ≤ fbn p → RCs Z1 u9 c0 b1 b2 b4 b5 b6 b7 → uR ≠ c0 → L1 uR = L uR → RRb I1 L1 c0 b1 b2 R → (∀ q, q < p → TRw (Mm lp op mu) C E K cost lu (RCf (L uR)) q (R q)) → f_X0_tally_L52 B Q k bb v0 v2 v3 v4 Z1 I1 L1 := by
  have z1 : (1 : Int32).toInt = 1 := rfl
  have hMa : ∀ p f, Mm lp op mu p f → alw lp op p f := fun p f h => h.1
  intro k
  induction k with
  | zero => intro p v4 Z1 I1 L1 c0 R hk h1 h2; omega
  | succ k ih =>
    intro p v4 Z1 I1 L1 c0 R hk h1 h2 e4v w bd fr cp a3 hc nRc eR hR hW
    have kv1 : jk Z1 v0 6 := (fr.1 v0 6 kv0).1
    have k9 : jk Z1 u9 7 := (fr.1 u9 7 ku9).1
    have kbb1 : jk Z1 bb 0 := (fr.1 bb 0 kbb).1
    have kR1 : jk Z1 uR 15 := (fr.1 uR 15 kR).1
    have hM1 := MVs_fr w_I kv0 fr hM
    have h91 : jr Z1 bb 0 = some u9 := (fr.2.1 bb 0 0 kbb (by decide) (by decide)).trans h9
    have hR11 : jr Z1 bb 1 = some uR := (fr.2.1 bb 0 1 kbb (by decide) (by decide)).trans hR1
    have rng := fun q (hq : q < p) => TRw_rng hK.2 hcost.2 hu.2.2 (hW q hq)
    unfold f_X0_tally_L52
    refine ⟨fun c => ?_, fun c => ?_⟩
    · have c := (i_lt hM1.2.2.1 e4v).mp c
      have hWn := hW n (by omega)
      have ln := tp_len hWn.2.1 (rng n (by omega))
      have tn := tb_rng n (by omega)
      have t4 := hWn.2.2.2
      exact ⟨(R n).length + 1, ta_L106 w bb v0 u9 kbb1 h91 k9 c0 b1 b2 b4 b5 b6 b7 hc n hM1.2.2.1 hn R (fun k hk => (rng n (by omega) k hk).1) (by omega) ln (fun r L' hr => hQ r Z1 I1 L' (R n) w bd fr cp hWn hr) ((R n).length + 1) 0 0 0 L1 (by omega) (by omega) rfl rfl hR⟩
    · have c := (not_congr (i_lt hM1.2.2.1 e4v)).mp c
      intro b hb; cases h91.symm.trans hb
      have fb := fbn_rec p (by omega)
      refine r_X6_feedM w v0 u9 v4 kv1 k9 c0 b1 b2 b4 b5 b6 b7 hc u4 u5 u6 u7 lp n op C E lu hM1 hlp hn hC hE p h1 (by omega) e4v v3 mu e3 hmu R hR (fun q hq => TRw_srt (hW q hq)) (fun q k hq hk => ⟨(rng q hq k hk).1, (rng q hq k hk).2.1, (rng q hq k hk).2.2, ((hW q hq).1 k hk).2.2⟩) (fun I6 L7 S m w6 f6 ro6 a36 hR6 hMG6 hcu6 hsr hnil hs hB hL6 => ?_)
      intro b hb; cases hM1.1.2.2.2.symm.trans hb
      have n4 : v4.toNatClampNeg = p := by have := i_nat e4v (by omega); omega
      rw [n4]
      refine ⟨vi_of e4v (by omega) (by omega), ?_⟩
      have e7 : (I6 u7 p).toInt = lu p := (MVs_fr w kv1 f6 hM1).2.2.2.2.2 p (by omega)
      have ek : (I6 v0 1).toInt = K := by rw [f6.2.2.1 v0 6 1 kv1 (by decide) (by decide), fr.2.2.1 v0 6 1 kv0 (by decide) (by decide)]; exact eK'
      have u0 := hu.2.2 p
      have u1 := hu9 p
      have tl := i_sub ek e7 (by omega) (by omega)
      have hTI : TI (admR K cost lu (RCf (L uR)) p) (wy (Mm lp op mu) C E p) (tb p) [] S := by
        refine TR_step (R := fun q => if q = p then [] else R q) hMa h0 hC hE hu hrc hK.2 hcost h1 (by omega) hn (fun q hq => ?_) hsr
        show TRw (Mm lp op mu) C E K cost lu (RCf (L uR)) q (if q = p then [] else R q)
        rw [if_neg (by omega)]
        exact hW q hq
      have tbp := tb_rng p (by omega)
      obtain ⟨d0, d1, d2, d4, d5, g0, g1, g2, g4, g5, k0', k1, k2, k4, k5, n1, n2, n4', n5, n12, n14, n15, n24, n25, n45, r1, r2, r3, r4, r5, r6⟩ := rows_at w6 k9
      cases hc.1.symm.trans g0; cases hc.2.1.symm.trans g1; cases hc.2.2.1.symm.trans g2; cases hc.2.2.2.1.symm.trans g4; cases hc.2.2.2.2.1.symm.trans g5
      have cu := hcu6.1
      rw [row_p] at cu
      have cu : (I6 b1 p).toInt + 0 = (I6 u9 3).toInt := cu
      have lw : LWb I6 b1 b2 b5 p m := ⟨fun q hq hqp hpos => by have := ((r4 q hq).2 hpos).2; omega, fun i hi => by have := (hMG6.2.2.2 i hi).2.2.1; omega⟩
      have eR6 : L7 uR = L uR := (hL6 uR nR6 nR7).trans eR
      unfold f_X0_keepOnTheWay
      intro b hb; cases h91.symm.trans hb
      intro x46 e46
      have t46 : x46.toInt = ((cnS S m : Nat) : Int) := by rw [e46]; exact hMG6.2.2.1
      have a36' : (I6 u9 3).toInt = (I1 u9 3).toInt := by rw [a36]
      refine ⟨cnS S m + 1, kw_L9 w6 bb u9 uR kbb1 h91 k9 hR11 kR1 c0 b1 b2 b4 b5 b6 b7 nRc nR7 p h1 (by omega) v4 _ v2 e4v K cost lu tl hK.2 u0 e2 hcost (wy (Mm lp op mu) C E p) (tb p) (by omega) R m hMG6.1 (by omega) (fun Z' I' L' c9 acc w' bd' f' cp' ro' hc' hR' l3' hc0' hL' hTF x ex => ?_) (cnS S m + 1) (cnS S m) x46 Z1 I6 L7 c0 [] S (Nat.le_refl _) t46 rfl w6 bd FR.rf CP.rf RO.rf hc hR6 hMG6 hcu6 lw rfl (Or.inl rfl) (fun _ _ _ _ => rfl) hs hB hnil (by rw [eR6]; exact hTI)⟩
      rw [eR6] at hTF
      have hTw : TRw (Mm lp op mu) C E K cost lu (RCf (L uR)) p acc := hTF
      have la := tp_len hTw.2.1 (TRw_rng hK.2 hcost.2 hu.2.2 hTw)
      have lt := tot_len (fun k hk => (hTw.1 k hk).2.2)
      have lb := hTw.2.2.2
      have nRc9 : uR ≠ c9 := fun e => by
        rcases hc0' with q | q
        · exact nRc (e.trans q)
        · exact q (e ▸ kR1.1)
      refine ih (p + 1) x Z' I' L' c9 _ (by omega) (by omega) (by omega) (by rw [ex]; exact (i_add e4v z1 (by omega) (by omega)).trans (by omega)) w' bd' (FR.trans w_I.1 w_I.2.1 (FR.trans w_I.1 w_I.2.1 fr f6) f') (CP.trans fr.1 cp cp') ?_ hc' nRc9 ((hL' uR kR1.1 nRc nR7).trans eR6) hR' (fun q hq => ?_)
      · have fb1 := fb.1
        by_cases c9 : tb p ≤ 121000
        · rw [if_pos c9] at fb1; omega
        · rw [if_neg c9] at fb1; omega
      · show TRw (Mm lp op mu) C E K cost lu (RCf (L uR)) q (if q = p then acc else R q)
        by_cases h : q = p
        · rw [if_pos h, h]
          exact hTw
        · rw [if_neg h]
          exact hW q (by omega)
set_option maxHeartbeats 1000000 in
theorem r_X0_tally {B : Nat × Nat} {T : Nat} {Z : jZ} {I : jI} {L : jL} (w_I : WD Z I) (bd : BUD B Z T) (bb v0 : Nat) (v2 v3 : Int32) (kv0 : jk Z v0 6) (kbb : jk Z bb 0) (u4 u5 u6 u7 lp n : Nat) (op : Nat → Prop) (C E : Nat → Nat → Int) (lu : Nat → Int) (hM : MVs Z I v0 u4 u5 u6 u7 lp n op C E lu) (hlp : lp ≤ 3) (hn1 : 1 ≤ n) (hn : n ≤ 24) (hC : ∀ p f, 0 ≤ C p f ∧ C p f ≤ 297) (hE : ∀ p f, 0 ≤ E p f ∧ E p f ≤ 600) (h0 : op 0) (hu : LUs lp n op E lu) (hu9 : ∀ q, lu q ≤ 2000000) (K P : Int) (eK' : (I v0 1).toInt = K) (eP : (I v0 2).toInt = P) (hK : 0 ≤ K ∧ K ≤ 120) (hP : 0 ≤ P ∧ P ≤ 999) (cost mu : Int) (e2 : v2.toInt = cost) (hcost : 0 ≤ cost ∧ cost ≤ 999) (e3 : v3.toInt = mu) (hmu : -1 ≤ mu ∧ mu ≤ 23) {Q : Int64 → jZ → jI → jL → Prop}
    (hQ : ∀ (r : Int64) (Z' : jZ) (I' : jI) (L' : jL), WD Z' I' → BUD B Z' T → FR W7 Z I Z' I' → CP Z Z' → 0 ≤ r.toInt → (0 < r.toInt ↔ TLs (Mm lp op mu) C E n K P cost) → Q r Z' I' L') : f_X0_tally B bb v0 v2 v3 Z I L Q := by
  have z0 : (0 : Int32).toInt = 0 := rfl
  have zl : (0 : Int64).toInt = 0 := rfl
  have hMa : ∀ p f, Mm lp op mu p f → alw lp op p f := fun p f h => h.1
  have hV : MVt (Mm lp op mu) := fun p f h => by have := h.1; unfold alw at this; omega
  obtain ⟨u9, h9, ku9⟩ := sh_o w_I.1 kbb (j := 0) (k := 7) rfl
  obtain ⟨uR, hR1, kR, lR⟩ := sh_f w_I.1 kbb (j := 1) (k := 15) (m := 400) rfl
  obtain ⟨b0, b1, b2, b4, b5, b6, b7, hc⟩ := rcs_at w_I ku9
  obtain ⟨-, -, -, kk0, kk6, kk7, -⟩ := RC_ne w_I ku9 hc
  have ne : ∀ (j b : Nat), jr Z u9 j = some b → uR ≠ b := fun j b hb e => by
    subst e
    have t := (w_I.2.1.2.2 bb 0 1 u9 7 j uR kbb ku9 hR1 hb (by simp [jsr]) (by simp [jsr])).1
    exact ks_ne kbb ku9 (by decide) t
  have nR0 := ne 0 b0 hc.1
  have nR6 := ne 6 b6 hc.2.2.2.2.2.1
  have nR7 := ne 7 b7 hc.2.2.2.2.2.2
  unfold f_X0_tally
  intro L1 q1
  have hMM := hM
  obtain ⟨⟨g4, g5, g6, g7⟩, m3, m15, mo, mm, mu'⟩ := hM
  have none : ¬ TLs (Mm lp op mu) C E n K P cost → f_X0_tally_b33 B Q Z I L1 := fun h => by
    unfold f_X0_tally_b33
    exact hQ 0 Z I L1 w_I bd FR.rf CP.rf (by rw [zl]; exact Int.le_refl 0) (by rw [zl]; exact ⟨fun q => absurd q (by decide), fun q => absurd q h⟩)
  refine ⟨fun c => ?_, fun _ => ⟨fun c => none (fun q => ?_), fun c1 => ?_⟩⟩
  · have c := (i_eq m15 z0).mp c
    omega
  · have c := (i_lt eP e2).mp c
    have := q.1
    omega
  have c1 := (not_congr (i_lt eP e2)).mp c1
  intro b hb; cases g7.symm.trans hb
  have n0 : (0 : Int32).toNatClampNeg = 0 := rfl
  rw [n0]
  have e70 := mu' 0 (by omega)
  refine ⟨fun c2 => ?_, fun c2 => none (fun q => ?_)⟩
  · have c2 := (i_le e70 eK').mp c2
    refine r_X0_findReach w_I bb v0 uR hR1 lR u4 u5 u6 u7 lp n op C E lu hMM hlp hn1 hn hC (fun L2 o2 hrc => ?_)
    intro b hb; cases h9.symm.trans hb
    refine r_X7_begin w_I bd u9 (0 : Int32) (1 : Int64) ku9 b0 b1 b2 b4 b5 b6 b7 hc 0 (by omega) rfl 1 rfl (fun Z5 I6 L7 c0 w5 bd5 f5 cp5 ro5 a35 hc5 hR5 hc05 hL5 => ?_)
    have nRc : uR ≠ c0 := fun e => by
      rcases hc05 with q | q
      · exact nR0 (e.trans q)
      · exact q (e ▸ kR.1)
    have eR : L7 uR = L2 uR := hL5 uR kR.1 nR0
    refine ⟨n + 2, ta_L52 (L := L2) w_I bb v0 kv0 kbb u9 uR h9 ku9 hR1 kR b1 b2 b4 b5 b6 b7 nR6 nR7 u4 u5 u6 u7 lp n op C E lu hMM hlp hn1 hn hC hE h0 hu hu9 K cost mu eK' hK v2 v3 e2 hcost e3 hmu hrc (fun r Z' I' L' l w' bd' f' cp' hl er => ?_) (n + 2) 1 1 Z5 I6 L7 c0 _ (by omega) (by omega) (by omega) rfl w5 bd5 f5 cp5 (by rw [a35]; decide) hc5 nRc eR hR5 (fun q hq => ?_)⟩
    · have tt := TR_top hMa h0 hu hrc hcost.1 hn1 hl
      refine hQ r Z' I' L' w' bd' f' cp' (by rw [er]; exact tot_nn) ?_
      rw [er, tt]
      exact ⟨fun q => ⟨by omega, q⟩, fun q => q.2⟩
    · have q0 : q = 0 := by omega
      subst q0
      show TRw (Mm lp op mu) C E K cost lu (RCf (L2 uR)) 0 (if 0 = 0 then [1] else [])
      rw [if_pos rfl]
      exact TRw_0
  · have c2 := (not_congr (i_le e70 eK')).mp c2
    obtain ⟨-, e, e0, eK9, hw⟩ := q
    have l := wy_lu hV hMa h0 hu n (Nat.le_refl _) cost e hw
    have on := wy_op hV (fun p f h => h.1.2.2.2) h0 hw
    have := hu.2.1 on
    omega
/-! ===== the class: trod, who ===== -/
/-- pilgrim p has a climb that costs just so much and treads a step (-1: any) -/
def TLp (D : DAT) (a : Nat → Int32) (p : Nat) (mu cost : Int) : Prop := TLs (Mm (dLp D p) (opF (dVw D p) (dMn D) (-1)) mu) (dCl D a (dLd D p)) (dEl D (dLd D p)) (dN D) (dKn D p) (dPu D p) cost
def TDin (D : DAT) (v1 v2 v3 : Int32) : Prop := (0 ≤ v1.toInt ∧ v1.toInt < (dP D : Int)) ∧ (0 ≤ v2.toInt ∧ v2.toInt ≤ 999) ∧ 0 ≤ v3.toInt ∧ v3.toInt < (dN D : Int)
def TDd (D : DAT) (a : Nat → Int32) (v1 v2 v3 : Int32) (r : Int) : Prop := (¬ TDin D v1 v2 v3 ∧ r = -1) ∨ (TDin D v1 v2 v3 ∧ ((¬ TLp D a v1.toInt.toNat (-1) v2.toInt ∧ r = -2) ∨ (TLp D a v1.toInt.toNat (-1) v2.toInt ∧ r = 0)))
theorem TDd_fun {D : DAT} {a : Nat → Int32} {v1 v2 v3 : Int32} {r r' : Int} (h : TDd D a v1 v2 v3 r) (h' : TDd D a v1 v2 v3 r') : r = r' := by
  rcases h with ⟨n, e⟩ | ⟨y, ⟨t, e⟩ | ⟨t, e⟩⟩
  · rcases h' with ⟨-, e'⟩ | ⟨y', -⟩
    · exact e.trans e'.symm
    · exact absurd y' n
  · rcases h' with ⟨n', -⟩ | ⟨-, ⟨-, e'⟩ | ⟨t', -⟩⟩
    · exact absurd y n'
    · exact e.trans e'.symm
    · exact absurd t' t
  · rcases h' with ⟨n', -⟩ | ⟨-, ⟨t', -⟩ | ⟨-, e'⟩⟩
    · exact absurd y n'
    · exact absurd t t'
    · exact e.trans e'.symm
/-- who could have trodden, as bits -/
noncomputable def whB (D : DAT) (a : Nat → Int32) (cost mu : Int) : Nat → Int32
  | 0 => 0
  | p + 1 => whB D a cost mu p ||| @ite _ (TLp D a p mu cost) (Classical.propDecidable _) ((1 : Int32) <<< (Int32.ofInt (p : Int) &&& 31)) 0
def WTin (D : DAT) (v1 v2 : Int32) : Prop := (0 ≤ v1.toInt ∧ v1.toInt ≤ 999) ∧ 0 ≤ v2.toInt ∧ v2.toInt < (dN D : Int)
def WTd (D : DAT) (a : Nat → Int32) (v1 v2 r : Int32) : Prop := (¬ WTin D v1 v2 ∧ r.toInt = -1) ∨ (WTin D v1 v2 ∧ r = whB D a v1.toInt v2.toInt (dP D))
theorem WTd_fun {D : DAT} {a : Nat → Int32} {v1 v2 r r' : Int32} (h : WTd D a v1 v2 r) (h' : WTd D a v1 v2 r') : r.toInt = r'.toInt := by
  rcases h with ⟨n, e⟩ | ⟨y, e⟩
  · rcases h' with ⟨-, e'⟩ | ⟨y', -⟩
    · exact e.trans e'.symm
    · exact absurd y' n
  · rcases h' with ⟨n', -⟩ | ⟨-, e'⟩
    · exact absurd y n'
    · rw [e, e']
theorem whB_y {D : DAT} {a : Nat → Int32} {cost mu : Int} {p : Nat} {v : Int32} (e : v.toInt = (p : Int)) (h : TLp D a p mu cost) : whB D a cost mu p ||| ((1 : Int32) <<< (v &&& 31)) = whB D a cost mu (p + 1) := by
  have ev : v = Int32.ofInt (p : Int) := by rw [← e, Int32.ofInt_toInt]
  show _ = whB D a cost mu p ||| @ite _ (TLp D a p mu cost) (Classical.propDecidable _) ((1 : Int32) <<< (Int32.ofInt (p : Int) &&& 31)) 0
  rw [if_pos h, ev]
theorem whB_n {D : DAT} {a : Nat → Int32} {cost mu : Int} {p : Nat} (h : ¬ TLp D a p mu cost) : whB D a cost mu p ||| (0 : Int32) = whB D a cost mu (p + 1) := by
  show _ = whB D a cost mu p ||| @ite _ (TLp D a p mu cost) (Classical.propDecidable _) ((1 : Int32) <<< (Int32.ofInt (p : Int) &&& 31)) 0
  rw [if_neg h]
def Wlt : List (Nat × Nat) := [(3, 2), (6, 4), (6, 5), (6, 6), (6, 7), (6, 14), (6, 15), (7, 1), (7, 2), (7, 3), (7, 4), (7, 5), (7, 8), (7, 9), (8, 8)]
set_option maxHeartbeats 1000000 in
theorem r_layTally {B : Nat × Nat} {T : Nat} {L : jL} {Z : jZ} {I : jI} {v0 v8 u0 u1 u2 u3 u4 u41 u5 u8 uL0 uC0 uL1 uC1 uP p13 p14 : Nat} {pc rc : Nat → Nat} {D : DAT} {a : Nat → Int32} (X : CWD Z I v0 v8 u0 u1 u2 u3 u4 u41 u5 u8 uL0 uC0 uL1 uC1 uP p13 p14 pc rc D a) (bd : BUD B Z T) (p : Nat) (hp : p < dP D) (n1 : 1 ≤ dN D) (v2 v3 : Int32) (cost mu : Int) (e2 : v2.toInt = cost) (hcost : 0 ≤ cost ∧ cost ≤ 999) (e3 : v3.toInt = mu) (hmu : -1 ≤ mu ∧ mu ≤ 23) {Q : Int64 → jZ → jI → jL → Prop}
    (hQ : ∀ (r : Int64) (Z' : jZ) (I' : jI) (L' : jL), CWD Z' I' v0 v8 u0 u1 u2 u3 u4 u41 u5 u8 uL0 uC0 uL1 uC1 uP p13 p14 pc rc D a → BUD B Z' T → FR Wlt Z I Z' I' → CP Z Z' → 0 ≤ r.toInt → (0 < r.toInt ↔ TLp D a p mu cost) → Q r Z' I' L') :
    f_X6_lay (rc p) (I (pc p) 3) (I (pc p) 4) (-1 : Int32) Z I L (fun I24 L25 => (∀ b28 : Nat, jr Z v0 9 = some b28 → (∀ b29 : Nat, jr Z (pc p) 8 = some b29 → (f_X0_tally B b28 b29 v2 v3 Z I24 L25 Q)))) := by
  have w := X.w
  have d := X.dok
  have ok := X.ok
  obtain ⟨-, -, g8, k6, -⟩ := X.pil p hp
  obtain ⟨e3p, e4p, -, -, -⟩ := X.piv p hp
  obtain ⟨l3, rl, rK, rP⟩ := d.2.2.2.2 p hp
  rw [e4p]
  refine r_X6_lay (X.sqL p hp (dLd D p) rl) X.S.2.2.2.2.2.1 (dMn D) X.mnc (I (pc p) 3) (dVw D p) (-1) (-1) e3p rfl (fun I1 L1 t4 t5 t6 t7 w1 f1 hL => ?_)
  obtain ⟨lu, hM, hu1, hu2⟩ := hL
  have X1 := X.fr w1 f1 (by decide) (by decide)
  obtain ⟨-, -, eK', eP', -⟩ := X1.piv p hp
  obtain ⟨bb, hbb, kbb⟩ := sh_o w.1 X.kv (j := 9) (k := 0) rfl
  intro b hb; cases hbb.symm.trans hb
  intro b hb; cases g8.symm.trans hb
  refine r_X0_tally w1 bd bb (rc p) v2 v3 k6 kbb t4 t5 t6 t7 (dLp D p) (dN D) _ _ _ lu hM l3 n1 d.1 (CCp_rng (PRa_rng ok)) (EEp_rng (Hn_rng (by omega) d.2.2.1) (Hn_rng (by omega) d.2.2.2.1) rl) (Or.inl rfl) hu1 hu2 (dKn D p) (dPu D p) eK' eP' rK rP cost mu e2 hcost e3 hmu (fun r Z2 I2 L2 w2 bd2 f2 cp2 r0 hr => ?_)
  exact hQ r Z2 I2 L2 (X1.fr w2 f2 (by decide) (by decide)) bd2 ((f1.mono (by decide)).trans w.1 w.2.1 (f2.mono (by decide))) cp2 r0 hr
set_option maxHeartbeats 1000000 in
theorem r_X11_trod {B : Nat × Nat} {T : Nat} {L : jL} {Z : jZ} {I : jI} {v0 v8 u0 u1 u2 u3 u4 u41 u5 u8 uL0 uC0 uL1 uC1 uP p13 p14 : Nat} {pc rc : Nat → Nat} {D : DAT} {a : Nat → Int32} (X : CWD Z I v0 v8 u0 u1 u2 u3 u4 u41 u5 u8 uL0 uC0 uL1 uC1 uP p13 p14 pc rc D a) (bd : BUD B Z T) (v1 v2 v3 : Int32) {Q : Int32 → jZ → jI → jL → Prop}
    (hQ : ∀ (r : Int32) (Z' : jZ) (I' : jI) (L' : jL), TDd D a v1 v2 v3 r.toInt → WD Z' I' → BUD B Z' T → FR Wcm Z I Z' I' → CP Z Z' → Q r Z' I' L') : f_X11_trod B v0 v1 v2 v3 Z I L Q := by
  have z0 : (0 : Int32).toInt = 0 := rfl
  have z9 : (999 : Int32).toInt = 999 := rfl
  have w := X.w
  have d := X.dok
  have n24 := d.1
  have bad : ¬ TDin D v1 v2 v3 → Q (-1 : Int32) Z I L := fun n => hQ _ Z I L (Or.inl ⟨n, rfl⟩) w bd FR.rf CP.rf
  unfold f_X11_trod
  refine X.find2 v1 (fun n => ⟨fun _ => bad (fun q => n q.1), fun b hb => by cases hb⟩) (fun p hp e1 => ⟨(fun q => by cases q), fun b hb' => ?_⟩)
  cases hb'
  have ep : v1.toInt.toNat = p := by omega
  refine ⟨fun c2 => bad (fun q => ?_), fun c2 => ⟨fun c3 => bad (fun q => ?_), fun c3 => ?_⟩⟩
  · have c2 := (i_lt rfl z0).mp c2
    have := q.2.1.1
    omega
  · have c3 := (i_lt z9 rfl).mp c3
    have := q.2.1.2
    omega
  have c2 := (not_congr (i_lt rfl z0)).mp c2
  have c3 := (not_congr (i_lt z9 rfl)).mp c3
  intro b hb; cases X.h2.symm.trans hb
  refine X.has v3 (fun r hr => ⟨fun c => ?_, fun c => bad (fun q => ?_)⟩)
  · have c := (not_congr (i_eq rfl z0)).mp c
    have hin : TDin D v1 v2 v3 := ⟨by omega, by omega, by omega⟩
    obtain ⟨-, -, g8, k6, -⟩ := X.pil p hp
    intro b h8; cases g8.symm.trans h8
    refine r_layTally X bd p hp (by omega) v2 (-1) v2.toInt (-1) rfl (by omega) (by decide) (by omega) (fun r36 Z2 I2 L2 X2 bd2 f2 cp2 r0 hT => ⟨fun c4 => ?_, fun c4 => ?_⟩)
    · have hpos : 0 < r36.toInt := by
        have ne : ¬ r36.toInt = 0 := fun q => c4 ((l_eqz (x := r36) (y := 0) rfl (show (0 : Int64).toInt = 0 from rfl)).mpr q)
        omega
      have w2 := X2.w
      obtain ⟨-, -, g82, k62, -⟩ := X2.pil p hp
      obtain ⟨bb, hbb, kbb⟩ := sh_o w2.1 X2.kv (j := 9) (k := 0) rfl
      obtain ⟨u0, hu0, -⟩ := sh_o w2.1 kbb (j := 0) (k := 7) rfl
      intro b hb; cases hbb.symm.trans hb
      intro b hb; cases g82.symm.trans hb
      refine s_X0_tally w2 bd2 bb (rc p) v2 v3 kbb k62 u0 hu0 (fun r48 Z3 I3 L3 w3 bd3 f3 cp3 => ?_)
      have kv3 := (X2.fr w3 f3 (by decide) (by decide)).kv
      refine s_X11_tellFraction w3 v0 r48 r36 kv3 (fun I4 L4 w4 f4 => ?_)
      exact hQ _ Z3 I4 L4 (Or.inr ⟨hin, Or.inr ⟨by rw [ep]; exact hT.mp hpos, rfl⟩⟩) w4 bd3 (((f2.mono (by decide)).trans w.1 w.2.1 (f3.mono (by decide))).trans w.1 w.2.1 (f4.mono (by decide))) (CP.trans f2.1 cp2 cp3)
    · have e := (l_eqz (x := r36) (y := 0) rfl (show (0 : Int64).toInt = 0 from rfl)).mp c4
      exact hQ _ Z2 I2 L2 (Or.inr ⟨hin, Or.inl ⟨by rw [ep]; exact fun q => by have := hT.mpr q; omega, rfl⟩⟩) X2.w bd2 (f2.mono (by decide)) cp2
  · have c := (i_eq rfl z0).mp c
    have := q.2.2
    omega
theorem wh_L29 {B : Nat × Nat} {T : Nat} {Z : jZ} {I : jI} {v0 v8 u0 u1 u2 u3 u4 u41 u5 u8 uL0 uC0 uL1 uC1 uP p13 p14 : Nat} {pc rc : Nat → Nat} {D : DAT} {a : Nat → Int32} (X : CWD Z I v0 v8 u0 u1 u2 u3 u4 u41 u5 u8 uL0 uC0 uL1 uC1 uP p13 p14 pc rc D a) (v1 v2 : Int32) (h1 : 0 ≤ v1.toInt ∧ v1.toInt ≤ 999) (h2 : 0 ≤ v2.toInt ∧ v2.toInt < (dN D : Int)) {Q : Int32 → jZ → jI → jL → Prop}
    (hQ : ∀ (Z' : jZ) (I' : jI) (L' : jL), WD Z' I' → BUD B Z' T → FR Wlt Z I Z' I' → CP Z Z' → Q (whB D a v1.toInt v2.toInt (dP D)) Z' I' L') :
    ∀ (k p : Nat) (v3 v4 : Int32) (Z1 : jZ) (I1 : jI) (L1 : jL), 8 ≤ k + p → p ≤ dP D → v4.toInt = (p : Int) → v3 = whB D a v1.toInt v2.toInt p → CWD Z1 I1 v0 v8 u0 u1 u2 u3 u4 u41 u5 u8 uL0 uC0 uL1 uC1 uP p13 p14 pc rc D a → BUD B Z1 T → FR Wlt Z I Z1 I1 → CP Z Z1 → f_X11_who_L29 B Q k v0 v1 v2 v3 v4 Z1 I1 L1 := by
  have z1 : (1 : Int32).toInt = 1 := rfl
  have w := X.w
  have p6 := X.dok.2.1
  have n24 := X.dok.1
  intro k
  induction k with
  | zero => intro p v3 v4 Z1 I1 L1 hk; omega
  | succ k ih =>
    intro p v3 v4 Z1 I1 L1 hk hp e4 e3 X1 bd f cp
    have w1 := X1.w
    unfold f_X11_who_L29
    refine ⟨fun c => ?_, fun c => ?_⟩
    · have c := (i_le X1.hp e4).mp c
      have ep : p = dP D := by omega
      rw [e3, ep]
      exact hQ Z1 I1 L1 w1 bd f cp
    have c := (not_congr (i_le X1.hp e4)).mp c
    refine X1.find2 v4 (fun n => by omega) (fun q hq e9 => ⟨(fun q => by cases q), fun b hb' => ?_⟩)
    cases hb'
    have eq9 : q = p := by omega
    subst eq9
    obtain ⟨-, -, g8, k6, -⟩ := X1.pil q hq
    intro b h8; cases g8.symm.trans h8
    refine r_layTally X1 bd q hq (by omega) v1 v2 v1.toInt v2.toInt rfl h1 rfl (by omega) (fun r28 Z2 I2 L2 X2 bd2 f2 cp2 r0 hT => ?_)
    have nx : ∀ s : Int32, v3 ||| s = whB D a v1.toInt v2.toInt (q + 1) → f_X11_who_b98 B (f_X11_who_L29 B Q k) Q v0 v1 v2 v4 v3 s Z2 I2 L2 := fun s hs => by
      unfold f_X11_who_b98 f_X11_who_b100
      intro x2 ex2 x1 ex1
      exact ih (q + 1) x2 x1 Z2 I2 L2 (by omega) (by omega) (by rw [ex1]; exact (i_add e4 z1 (by omega) (by omega)).trans (by omega)) (ex2.trans hs) X2 bd2 (f.trans w.1 w.2.1 f2) (CP.trans f.1 cp cp2)
    have zl : (0 : Int64).toInt = 0 := rfl
    refine ⟨fun c9 => nx 0 ?_, fun c9 => nx _ ?_⟩
    · have c9 := Int64.le_iff_toInt_le.mp ((lg_cmp_le _ _).mp c9)
      rw [e3]
      exact whB_n (fun t => by have := hT.mpr t; omega)
    · have c9 := (not_congr (l_le (x := r28) (y := 0) rfl zl)).mp c9
      rw [e3]
      exact whB_y e4 (hT.mp (by omega))
theorem r_X11_who {B : Nat × Nat} {T : Nat} {L : jL} {Z : jZ} {I : jI} {v0 v8 u0 u1 u2 u3 u4 u41 u5 u8 uL0 uC0 uL1 uC1 uP p13 p14 : Nat} {pc rc : Nat → Nat} {D : DAT} {a : Nat → Int32} (X : CWD Z I v0 v8 u0 u1 u2 u3 u4 u41 u5 u8 uL0 uC0 uL1 uC1 uP p13 p14 pc rc D a) (bd : BUD B Z T) (v1 v2 : Int32) {Q : Int32 → jZ → jI → jL → Prop}
    (hQ : ∀ (r : Int32) (Z' : jZ) (I' : jI) (L' : jL), WTd D a v1 v2 r → WD Z' I' → BUD B Z' T → FR Wcm Z I Z' I' → CP Z Z' → Q r Z' I' L') : f_X11_who B v0 v1 v2 Z I L Q := by
  have z0 : (0 : Int32).toInt = 0 := rfl
  have z9 : (999 : Int32).toInt = 999 := rfl
  have w := X.w
  have bad : ¬ WTin D v1 v2 → Q (-1 : Int32) Z I L := fun n => hQ _ Z I L (Or.inl ⟨n, rfl⟩) w bd FR.rf CP.rf
  unfold f_X11_who
  refine ⟨fun c2 => bad (fun q => ?_), fun c2 => ⟨fun c3 => bad (fun q => ?_), fun c3 => ?_⟩⟩
  · have c2 := (i_lt rfl z0).mp c2
    have := q.1.1
    omega
  · have c3 := (i_lt z9 rfl).mp c3
    have := q.1.2
    omega
  have c2 := (not_congr (i_lt rfl z0)).mp c2
  have c3 := (not_congr (i_lt z9 rfl)).mp c3
  intro b hb; cases X.h2.symm.trans hb
  refine X.has v2 (fun r hr => ⟨fun c => ?_, fun c => bad (fun q => ?_)⟩)
  · have c := (not_congr (i_eq rfl z0)).mp c
    have hin : WTin D v1 v2 := ⟨by omega, by omega⟩
    exact ⟨8, wh_L29 X v1 v2 hin.1 hin.2 (fun Z' I' L' w' bd' f' cp' => hQ _ Z' I' L' (Or.inr ⟨hin, rfl⟩) w' bd' (f'.mono (by decide)) cp') 8 0 0 0 Z I L (by omega) (by omega) rfl rfl X bd FR.rf CP.rf⟩
  · have c := (i_eq rfl z0).mp c
    have := q.2
    omega
/-! ===== the reference: ways counted ===== -/
def ix (a e c : Nat) : Nat := (a * 121 + e) * 1000 + c
theorem ix_ne {a e c a' e' c' : Nat} (he : e ≤ 120) (he' : e' ≤ 120) (hc : c ≤ 999) (hc' : c' ≤ 999) (h : a ≠ a' ∨ e ≠ e' ∨ c ≠ c') : ix a e c ≠ ix a' e' c' := by
  unfold ix
  omega
theorem i_mod4 {v : Int32} {r : Nat} (e : v.toInt = (r : Int)) (hr : r ≤ 100000) : (v - v / (4 : Int32) * (4 : Int32)).toInt = ((r % 4 : Nat) : Int) := by
  have z : (4 : Int32).toInt = 4 := rfl
  have d : (v / (4 : Int32)).toInt = ((r / 4 : Nat) : Int) := (i_div e z (by omega) (by decide)).trans (by omega)
  exact (i_sub e (i_mul d z (by omega) (by omega)) (by omega) (by omega)).trans (by omega)
theorem i_ix {x y z r : Int32} {a e c : Nat} (hx : x.toInt = (a : Int)) (hr : r.toInt = 121) (hy : y.toInt = (e : Int)) (hz : z.toInt = (c : Int)) (ha : a ≤ 3) (he : e ≤ 120) (hc : c ≤ 999) : ((((x * r) + y) * (1000 : Int32)) + z).toInt = ((ix a e c : Nat) : Int) ∧ ((((x * r) + y) * (1000 : Int32)) + z).toNatClampNeg = ix a e c ∧ vp_in ((((x * r) + y) * (1000 : Int32)) + z) 484000 := by
  have z1000 : (1000 : Int32).toInt = 1000 := rfl
  have t : ((((x * r) + y) * (1000 : Int32)) + z).toInt = ((ix a e c : Nat) : Int) := (i_add (i_mul (i_add (i_mul hx hr (by omega) (by omega)) hy (by omega) (by omega)) z1000 (by omega) (by omega)) hz (by omega) (by omega)).trans (by unfold ix; omega)
  refine ⟨t, ?_, vi_of t (by omega) (by unfold ix; omega)⟩
  have := i_nat t (by omega)
  omega
/-- cells of other layers are as they were -/
def OLs (t45 b : Nat) (I I0 : jI) : Prop := ∀ a e c, a < 4 → a ≠ b → e ≤ 120 → c ≤ 999 → I t45 (ix a e c) = I0 t45 (ix a e c)
/-- a layer's ways -/
def LYs (I : jI) (t45 a KN cN : Nat) (F : Int → Int → Int) : Prop := ∀ e c : Nat, e ≤ KN → c ≤ cN → (I t45 (ix a e c)).toInt = F (c : Int) (e : Int)
set_option maxHeartbeats 1000000 in
theorem cw_L241 {B : Nat × Nat} {Z : jZ} {J I0 : jI} (v0 : Nat) (v1 v2 v3 v4 v5 v6 v7 v8 v9 : Int32) (t37 t38 t45 to fr far me mc e9 KN cN : Nat) (h45 : jr Z v0 45 = some t45) (h37 : jr Z v0 37 = some t37) (h38 : jr Z v0 38 = some t38) (n37 : t37 ≠ t45) (n38 : t38 ≠ t45) (hK : KN ≤ 120) (hc : cN ≤ 999) (e2 : v2.toInt = (cN : Int)) (e3 : v3.toInt = 121) (e5 : v5.toInt = (to : Int)) (e7 : v7.toInt = (fr : Int)) (hto : to ≤ 24) (hfr : fr + far = to) (hf : 1 ≤ far ∧ far ≤ 3) (e8 : v8.toInt = ((3 * fr + far - 1 : Nat) : Int)) (e9v : v9.toInt = (e9 : Int)) (h9 : me ≤ e9 ∧ e9 ≤ KN) (mC : (J t37 (3 * fr + far - 1)).toInt = (mc : Int)) (mE : (J t38 (3 * fr + far - 1)).toInt = (me : Int)) (F F' H : Int → Int → Int) (hH : LYs I0 t45 (fr % 4) KN cN H) (hF' : ∀ c : Nat, mc ≤ c → c ≤ cN → F' (c : Int) (e9 : Int) = F (c : Int) (e9 : Int) + H ((c : Int) - (mc : Int)) ((e9 : Int) - (me : Int))) (bF : ∀ c : Nat, c ≤ cN → 0 ≤ F (c : Int) (e9 : Int) ∧ F (c : Int) (e9 : Int) ≤ 2000000 ∧ 0 ≤ F' (c : Int) (e9 : Int) ∧ F' (c : Int) (e9 : Int) ≤ 2000000)
    {K90 : Nat → Int32 → Int32 → Int32 → Int32 → jZ → jI → jL → Prop} {K165 : Nat → Int32 → Int32 → Int32 → Int32 → Int32 → Int32 → jZ → jI → jL → Prop} {K221 : Nat → Int32 → Int32 → Int32 → Int32 → Int32 → Int32 → Int32 → Int32 → Int32 → jZ → jI → jL → Prop} {Q : Int32 → jZ → jI → jL → Prop}
    (hN : ∀ (x : Int32) (I : jI) (L : jL), x.toInt = ((e9 + 1 : Nat) : Int) → (∀ y, y ≠ t45 → I y = J y) → OLs t45 (to % 4) I I0 → (∀ e c : Nat, e ≤ KN → c ≤ cN → (I t45 (ix (to % 4) e c)).toInt = if e < e9 + 1 then F' (c : Int) (e : Int) else F (c : Int) (e : Int)) → K221 v0 v1 v2 v3 v4 v5 v6 v7 v8 x Z I L) :
    ∀ (k c : Nat) (v10 : Int32) (I : jI) (L : jL), cN + 2 ≤ k + c → mc ≤ c → c ≤ cN + 1 ∨ mc = c → v10.toInt = (c : Int) → (∀ y, y ≠ t45 → I y = J y) → OLs t45 (to % 4) I I0 → (∀ e d : Nat, e ≤ KN → d ≤ cN → (I t45 (ix (to % 4) e d)).toInt = if e < e9 ∨ (e = e9 ∧ d < c) then F' (d : Int) (e : Int) else F (d : Int) (e : Int)) → 1 ≤ k → f_X12_countWays_L241 B K90 K165 K221 Q k v0 v1 v2 v3 v4 v5 v6 v7 v8 v9 v10 Z I L := by
  have z1 : (1 : Int32).toInt = 1 := rfl
  intro k
  induction k with
  | zero => intro c v10 I L hk hmc hcc e10 ho hu hb h1; omega
  | succ k ih =>
    intro c v10 I L hk hmc hcc e10 ho hu hb h1
    have n8 : v8.toNatClampNeg = 3 * fr + far - 1 := by have := i_nat e8 (by omega); omega
    have vi8 : vp_in v8 75 := vi_of e8 (by omega) (by omega)
    unfold f_X12_countWays_L241
    refine ⟨fun q => ?_, fun q => ?_⟩
    · have q := (i_lt e2 e10).mp q
      intro x ex
      refine hN x I L (by rw [ex]; exact (i_add e9v z1 (by omega) (by omega)).trans (by omega)) ho hu (fun e d he hd => ?_)
      rw [hb e d he hd]
      by_cases c1 : e < e9 + 1
      · rw [if_pos c1, if_pos (by omega)]
      · rw [if_neg c1, if_neg (by omega)]
    have q := (not_congr (i_lt e2 e10)).mp q
    have a5 := i_mod4 e5 (by omega)
    have a7 := i_mod4 e7 (by omega)
    obtain ⟨t1, t2, t3⟩ := i_ix (a := to % 4) a5 e3 e9v e10 (by omega) (by omega) (by omega)
    intro b hb'; cases h45.symm.trans hb'
    refine ⟨t3, ?_⟩
    intro b hb'; cases h45.symm.trans hb'
    intro b hb'; cases h38.symm.trans hb'
    refine ⟨vi8, ?_⟩
    intro b hb'; cases h37.symm.trans hb'
    rw [n8, ho t38 n38, ho t37 n37, t2]
    have s1 : ((((v7 - v7 / (4 : Int32) * (4 : Int32)) * v3) + v9) - (J t38 (3 * fr + far - 1))).toInt = (((fr % 4) * 121 + (e9 - me) : Nat) : Int) := (i_sub (i_add (i_mul a7 e3 (by omega) (by omega)) e9v (by omega) (by omega)) mE (by omega) (by omega)).trans (by omega)
    have s2 : (((((((v7 - v7 / (4 : Int32) * (4 : Int32)) * v3) + v9) - (J t38 (3 * fr + far - 1))) * (1000 : Int32)) + v10) - (J t37 (3 * fr + far - 1))).toInt = ((ix (fr % 4) (e9 - me) (c - mc) : Nat) : Int) := (i_sub (i_add (i_mul s1 (show (1000 : Int32).toInt = 1000 from rfl) (by omega) (by omega)) e10 (by omega) (by omega)) mC (by omega) (by omega)).trans (by unfold ix; omega)
    have s3 : (((((((v7 - v7 / (4 : Int32) * (4 : Int32)) * v3) + v9) - (J t38 (3 * fr + far - 1))) * (1000 : Int32)) + v10) - (J t37 (3 * fr + far - 1))).toNatClampNeg = ix (fr % 4) (e9 - me) (c - mc) := by have := i_nat s2 (by omega); omega
    refine ⟨vi8, vi_of s2 (by omega) (by unfold ix; omega), t3, fun I26 e26 x27 e27 => ?_⟩
    rw [s3] at e26
    have g1 : (I t45 (ix (to % 4) e9 c)).toInt = F (c : Int) (e9 : Int) := by
      rw [hb e9 c h9.2 (by omega), if_neg (by omega)]
    have g2 : (I t45 (ix (fr % 4) (e9 - me) (c - mc))).toInt = H ((c : Int) - (mc : Int)) ((e9 : Int) - (me : Int)) := by
      rw [hu (fr % 4) (e9 - me) (c - mc) (by omega) (by omega) (by omega) (by omega), hH (e9 - me) (c - mc) (by omega) (by omega)]
      rw [show ((c - mc : Nat) : Int) = (c : Int) - (mc : Int) by omega, show ((e9 - me : Nat) : Int) = (e9 : Int) - (me : Int) by omega]
    have b9 := bF c (by omega)
    have f9 := hF' c hmc (by omega)
    have g3 : (I26 t45 (ix (to % 4) e9 c)).toInt = F' (c : Int) (e9 : Int) := by
      rw [e26, jpI_at]
      exact (i_add g1 g2 (by omega) (by omega)).trans f9.symm
    refine ih (c + 1) x27 I26 L (by omega) (by omega) (Or.inl (by omega)) (by rw [e27]; exact (i_add e10 z1 (by omega) (by omega)).trans (by omega)) (fun y hy => by rw [e26, jpI_ne hy]; exact ho y hy) (fun a e d ha hne he hd => ?_) (fun e d he hd => ?_) (by omega)
    · rw [e26, jpI_off (ix_ne he (by omega) hd (by omega) (Or.inl hne))]
      exact hu a e d ha hne he hd
    · by_cases c9 : e = e9 ∧ d = c
      · rw [c9.1, c9.2, g3, if_pos (by omega)]
      · rw [e26, jpI_off (ix_ne (by omega) (by omega) (by omega) (by omega) (by omega)), hb e d he hd]
        by_cases c8 : e < e9 ∨ e = e9 ∧ d < c
        · rw [if_pos c8, if_pos (by omega)]
        · rw [if_neg c8, if_neg (by omega)]
set_option maxHeartbeats 1000000 in
theorem cw_L221 {B : Nat × Nat} {Z : jZ} {J I0 : jI} (v0 : Nat) (v1 v2 v3 v4 v5 v6 v7 v8 : Int32) (t9 t37 t38 t45 pi to fr far me mc KN cN : Nat) (h9 : jr Z v0 9 = some t9) (h45 : jr Z v0 45 = some t45) (h37 : jr Z v0 37 = some t37) (h38 : jr Z v0 38 = some t38) (n9 : t9 ≠ t45) (n37 : t37 ≠ t45) (n38 : t38 ≠ t45) (e1 : v1.toInt = (pi : Int)) (hpi : pi < 6) (eK : (J t9 pi).toInt = (KN : Int)) (hK : KN ≤ 120) (hc : cN ≤ 999) (e2 : v2.toInt = (cN : Int)) (e3 : v3.toInt = 121) (e5 : v5.toInt = (to : Int)) (e7 : v7.toInt = (fr : Int)) (hto : to ≤ 24) (hfr : fr + far = to) (hf : 1 ≤ far ∧ far ≤ 3) (e8 : v8.toInt = ((3 * fr + far - 1 : Nat) : Int)) (mC : (J t37 (3 * fr + far - 1)).toInt = (mc : Int)) (hmc : mc ≤ 2000) (mE : (J t38 (3 * fr + far - 1)).toInt = (me : Int)) (hme : me ≤ 2000) (F F' H : Int → Int → Int) (hH : LYs I0 t45 (fr % 4) KN cN H) (hF' : ∀ c e : Nat, F' (c : Int) (e : Int) = F (c : Int) (e : Int) + H ((c : Int) - (mc : Int)) ((e : Int) - (me : Int))) (hH0 : ∀ c e : Int, (c < 0 ∨ e < 0) → H c e = 0) (bF : ∀ c e : Int, 0 ≤ F c e ∧ F c e ≤ 2000000 ∧ 0 ≤ F' c e ∧ F' c e ≤ 2000000)
    {K90 : Nat → Int32 → Int32 → Int32 → Int32 → jZ → jI → jL → Prop} {K165 : Nat → Int32 → Int32 → Int32 → Int32 → Int32 → Int32 → jZ → jI → jL → Prop} {Q : Int32 → jZ → jI → jL → Prop}
    (hN : ∀ (I : jI) (L : jL), (∀ y, y ≠ t45 → I y = J y) → OLs t45 (to % 4) I I0 → LYs I t45 (to % 4) KN cN F' → f_X12_countWays_b320 B K90 K165 Q v0 v1 v2 v3 v4 v5 v6 Z I L) :
    ∀ (k e9 : Nat) (v9 : Int32) (I : jI) (L : jL), KN + 2 ≤ k + e9 → me ≤ e9 → 1 ≤ k → v9.toInt = (e9 : Int) → (∀ y, y ≠ t45 → I y = J y) → OLs t45 (to % 4) I I0 → (∀ e c : Nat, e ≤ KN → c ≤ cN → (I t45 (ix (to % 4) e c)).toInt = if e < e9 then F' (c : Int) (e : Int) else F (c : Int) (e : Int)) → f_X12_countWays_L221 B K90 K165 Q k v0 v1 v2 v3 v4 v5 v6 v7 v8 v9 Z I L := by
  have n1 : v1.toNatClampNeg = pi := by have := i_nat e1 (by omega); omega
  have vi1 : vp_in v1 6 := vi_of e1 (by omega) (by omega)
  have n8 : v8.toNatClampNeg = 3 * fr + far - 1 := by have := i_nat e8 (by omega); omega
  have vi8 : vp_in v8 75 := vi_of e8 (by omega) (by omega)
  intro k
  induction k with
  | zero => intro e9 v9 I L hk hm h1; omega
  | succ k ih =>
    intro e9 v9 I L hk hm h1 e9v ho hu hb
    unfold f_X12_countWays_L221
    intro b hb'; cases h9.symm.trans hb'
    rw [n1, ho t9 n9]
    refine ⟨vi1, fun q => ?_, fun q => ?_⟩
    · have q := (i_lt eK e9v).mp q
      refine hN I L ho hu (fun e c he hc' => ?_)
      rw [hb e c he hc', if_pos (by omega)]
    have q := (not_congr (i_lt eK e9v)).mp q
    intro b hb'; cases h37.symm.trans hb'
    rw [n8, ho t37 n37]
    refine ⟨vi8, fun x33 e33 => ?_⟩
    refine ⟨cN + 2, cw_L241 v0 v1 v2 v3 v4 v5 v6 v7 v8 v9 t37 t38 t45 to fr far me mc e9 KN cN h45 h37 h38 n37 n38 hK hc e2 e3 e5 e7 hto hfr hf e8 e9v ⟨hm, by omega⟩ mC mE F F' H hH (fun c _ _ => hF' c e9) (fun c _ => bF _ _) (fun x I' L' ex o' u' b' => ih (e9 + 1) x I' L' (by omega) (by omega) (by omega) ex o' u' b') (cN + 2) mc x33 I L (by omega) (Nat.le_refl _) (Or.inr rfl) (by rw [e33]; exact mC) ho hu (fun e d he hd => ?_) (by omega)⟩
    rw [hb e d he hd]
    by_cases c1 : e < e9
    · rw [if_pos c1, if_pos (Or.inl c1)]
    · rw [if_neg c1]
      by_cases c2 : e = e9 ∧ d < mc
      · rw [if_pos (Or.inr c2), hF', hH0 _ _ (Or.inl (by omega)), Int.add_zero]
      · rw [if_neg (fun q => q.elim c1 c2)]
/-- ways to place `to` by moves of less than far -/
noncomputable def GW (M : Nat → Nat → Prop) (C E : Nat → Nat → Int) (to far : Nat) (c e : Int) : Int := sL far (fun f => sel (M to f) (wy M C E (to - f) (c - C to f) (e - E to f)) 0)
theorem sL_rng {far : Nat} {g : Nat → Int} (h : ∀ f, 0 ≤ g f) : 0 ≤ sL far g ∧ sL far g ≤ s3 g := by
  have a := h 1
  have b := h 2
  have c := h 3
  unfold sL s3
  by_cases c1 : 1 < far
  · by_cases c2 : 2 < far
    · by_cases c3 : 3 < far
      · rw [if_pos c1, if_pos c2, if_pos c3]; omega
      · rw [if_pos c1, if_pos c2, if_neg c3]; omega
    · rw [if_pos c1, if_neg c2, if_neg (by omega)]; omega
  · rw [if_neg c1, if_neg (by omega), if_neg (by omega)]; omega
theorem GW_rng {M : Nat → Nat → Prop} {C E : Nat → Nat → Int} (hM : MVt M) {to far : Nat} (h1 : 1 ≤ to) (h24 : to ≤ 24) (c e : Int) : 0 ≤ GW M C E to far c e ∧ GW M C E to far c e ≤ 2000000 := by
  have nn : ∀ f, 0 ≤ sel (M to f) (wy M C E (to - f) (c - C to f) (e - E to f)) 0 := fun f => by
    by_cases h : M to f
    · rw [sel_y h]
      exact (wy_rng hM (to - f) (by omega) _ _).1
    · rw [sel_n h]
      exact Int.le_refl 0
  have r := sL_rng (far := far) nn
  have w := wy_rng (C := C) (E := E) hM to h24 c e
  rw [wy_rec hM h1] at w
  have t := tb_rng to (by omega)
  unfold GW
  omega
theorem GW_S {M : Nat → Nat → Prop} {C E : Nat → Nat → Int} {to far : Nat} {c e : Int} (h1 : 1 ≤ far) (h3 : far ≤ 3) : GW M C E to (far + 1) c e = GW M C E to far c e + sel (M to far) (wy M C E (to - far) (c - C to far) (e - E to far)) 0 := sL_S h1 h3
theorem GW_end {M : Nat → Nat → Prop} {C E : Nat → Nat → Int} (hM : MVt M) {to far : Nat} {c e : Int} (h1 : 1 ≤ to) (h4 : far ≤ 4) (hn : ∀ f, far ≤ f → f ≤ 3 → ¬ M to f) : GW M C E to far c e = wy M C E to c e := by
  rw [wy_rec hM h1]
  exact (sL_end h4 (fun f a b => sel_n (hn f a b))).symm
set_option maxHeartbeats 1000000 in
theorem cw_L165 {B : Nat × Nat} {Z : jZ} {J I0 : jI} (v0 : Nat) (v1 v2 v3 v4 v5 : Int32) (t9 t37 t38 t45 pi to lp n KN cN : Nat) (op : Nat → Prop) (C E : Nat → Nat → Int) (hm : MVm Z J v0 t37 t38 lp n op C E) (hlp : lp ≤ 3) (hn : n ≤ 24) (hC : ∀ p f, 0 ≤ C p f ∧ C p f ≤ 297) (hE : ∀ p f, 0 ≤ E p f ∧ E p f ≤ 600) (h9 : jr Z v0 9 = some t9) (h45 : jr Z v0 45 = some t45) (n9 : t9 ≠ t45) (n37 : t37 ≠ t45) (n38 : t38 ≠ t45) (e1 : v1.toInt = (pi : Int)) (hpi : pi < 6) (eK : (J t9 pi).toInt = (KN : Int)) (hK : KN ≤ 120) (hc : cN ≤ 999) (e2 : v2.toInt = (cN : Int)) (e3 : v3.toInt = 121) (e5 : v5.toInt = (to : Int)) (hto1 : 1 ≤ to) (hto : to ≤ n) (hpr : ∀ f, 1 ≤ f → f ≤ 3 → f ≤ to → LYs I0 t45 ((to - f) % 4) KN cN (wy (alw lp op) C E (to - f)))
    {K90 : Nat → Int32 → Int32 → Int32 → Int32 → jZ → jI → jL → Prop} {Q : Int32 → jZ → jI → jL → Prop}
    (hN : ∀ (I : jI) (L : jL), (∀ y, y ≠ t45 → I y = J y) → OLs t45 (to % 4) I I0 → LYs I t45 (to % 4) KN cN (wy (alw lp op) C E to) → f_X12_countWays_b326 B K90 Q v0 v1 v2 v3 v4 Z I L) :
    ∀ (k far : Nat) (v6 : Int32) (I : jI) (L : jL), 5 ≤ k + far → 1 ≤ far → far ≤ 4 → v6.toInt = (far : Int) → (∀ y, y ≠ t45 → I y = J y) → OLs t45 (to % 4) I I0 → LYs I t45 (to % 4) KN cN (GW (alw lp op) C E to far) → f_X12_countWays_L165 B K90 Q k v0 v1 v2 v3 v4 v5 v6 Z I L := by
  have z1 : (1 : Int32).toInt = 1 := rfl
  have z3 : (3 : Int32).toInt = 3 := rfl
  have zF : (1000000000 : Int32).toInt = 1000000000 := rfl
  have hV : MVt (alw lp op) := fun p f h => by unfold alw at h; omega
  obtain ⟨⟨h37, h38⟩, hn0, hmm⟩ := hm
  intro k
  induction k with
  | zero => intro far v6 I L hk h1 h4; omega
  | succ k ih =>
    intro far v6 I L hk h1 h4 e6 ho hu hy
    have done : (∀ f, far ≤ f → f ≤ 3 → ¬ alw lp op to f) → f_X12_countWays_b326 B K90 Q v0 v1 v2 v3 v4 Z I L := fun h => hN I L ho hu (fun e c he hc' => by rw [hy e c he hc', GW_end hV hto1 h4 h])
    unfold f_X12_countWays_L165
    refine ⟨fun q => ?_, fun q => ⟨fun q2 => ?_, fun q2 => ?_⟩⟩
    · have q := (i_lt z3 e6).mp q
      exact done (fun f a b => by omega)
    · have q2 := (i_lt e5 e6).mp q2
      exact done (fun f a b h => by have := h.2.2.1; omega)
    have q := (not_congr (i_lt z3 e6)).mp q
    have q2 := (not_congr (i_lt e5 e6)).mp q2
    intro x37 e37 x38 e38
    have t37v : x37.toInt = ((to - far : Nat) : Int) := by rw [e37]; exact (i_sub e5 e6 (by omega) (by omega)).trans (by omega)
    have t38v : x38.toInt = ((3 * (to - far) + far - 1 : Nat) : Int) := by rw [e38]; exact (i_sub (i_add (i_mul z3 t37v (by omega) (by omega)) e6 (by omega) (by omega)) z1 (by omega) (by omega)).trans (by omega)
    have n8 : x38.toNatClampNeg = 3 * (to - far) + far - 1 := by have := i_nat t38v (by omega); omega
    have vi8 : vp_in x38 75 := vi_of t38v (by omega) (by omega)
    obtain ⟨m1, m2⟩ := hmm (to - far) far (by omega) h1 (by omega)
    rw [show to - far + far = to by omega] at m1
    have nx : ∀ (I' : jI) (L' : jL), (∀ y, y ≠ t45 → I' y = J y) → OLs t45 (to % 4) I' I0 → LYs I' t45 (to % 4) KN cN (GW (alw lp op) C E to (far + 1)) → f_X12_countWays_b320 B K90 (f_X12_countWays_L165 B K90 Q k) Q v0 v1 v2 v3 v4 v5 v6 Z I' L' := fun I' L' o' u' y' => by
      unfold f_X12_countWays_b320
      intro x ex
      exact ih (far + 1) x I' L' (by omega) (by omega) (by omega) (by rw [ex]; exact (i_add e6 z1 (by omega) (by omega)).trans (by omega)) o' u' y'
    intro b hb'; cases h37.symm.trans hb'
    rw [n8, ho t37 n37]
    by_cases ha : alu lp n op (to - far) far
    · obtain ⟨mC, mE⟩ := m1 ha
      have hal : alw lp op to far := by
        obtain ⟨a1, a2, a3, a4⟩ := ha
        rw [show to - far + far = to by omega] at a4
        exact ⟨a1, a2, by omega, a4⟩
      have c9 := hC to far
      have e9 := hE to far
      refine ⟨vi8, fun q3 => ?_, fun q3 => ?_⟩
      · intro b hb'; cases h38.symm.trans hb'
        rw [ho t38 n38]
        refine ⟨vi8, fun x44 e44 => ?_⟩
        refine ⟨KN + 2, cw_L221 v0 v1 v2 v3 v4 v5 v6 x37 x38 t9 t37 t38 t45 pi to (to - far) far (E to far).toNat (C to far).toNat KN cN h9 h45 h37 h38 n9 n37 n38 e1 hpi eK hK hc e2 e3 e5 t37v (by omega) (by omega) ⟨h1, by omega⟩ t38v (by rw [mC]; omega) (by omega) (by rw [mE]; omega) (by omega) (GW (alw lp op) C E to far) (GW (alw lp op) C E to (far + 1)) (wy (alw lp op) C E (to - far)) (hpr far h1 (by omega) (by omega)) (fun c e => ?_) (fun c e h => wy_neg hV hC hE _ _ _ h) (fun c e => ?_) nx (KN + 2) (E to far).toNat x44 I L (by omega) (Nat.le_refl _) (by omega) (by rw [e44, mE]; omega) ho hu (fun e c he hc' => ?_)⟩
        · rw [GW_S h1 (by omega), sel_y hal, show ((C to far).toNat : Int) = C to far by omega, show ((E to far).toNat : Int) = E to far by omega]
        · have a := GW_rng (C := C) (E := E) hV (far := far) hto1 (by omega) c e
          have b := GW_rng (C := C) (E := E) hV (far := far + 1) hto1 (by omega) c e
          omega
        · rw [hy e c he hc']
          by_cases c1 : e < (E to far).toNat
          · rw [if_pos c1, GW_S h1 (by omega), sel_y hal, wy_neg hV hC hE _ _ _ (Or.inr (by omega)), Int.add_zero]
          · rw [if_neg c1]
      · have q3 := (i_eq mC zF).mp q3
        omega
    · have m2 := m2 ha
      have hal : ¬ alw lp op to far := fun h => ha ⟨h.1, h.2.1, by omega, by rw [show to - far + far = to by omega]; exact h.2.2.2⟩
      refine ⟨vi8, fun q3 => absurd ((i_eq m2 zF).mpr rfl) q3, fun _ => nx I L ho hu (fun e c he hc' => ?_)⟩
      rw [hy e c he hc', GW_S h1 (by omega), sel_n hal, Int.add_zero]
set_option maxHeartbeats 1000000 in
theorem cw_L122 {B : Nat × Nat} {Z : jZ} {J I0 : jI} (v0 : Nat) (v1 v2 v3 v4 v5 v6 : Int32) (t45 to e6 KN cN : Nat) (h45 : jr Z v0 45 = some t45) (hK : KN ≤ 120) (hc : cN ≤ 999) (e2 : v2.toInt = (cN : Int)) (e3 : v3.toInt = 121) (e5 : v5.toInt = (to : Int)) (hto : to ≤ 24) (e6v : v6.toInt = (e6 : Int)) (h6 : e6 ≤ KN)
    {K90 : Nat → Int32 → Int32 → Int32 → Int32 → jZ → jI → jL → Prop} {K108 : Nat → Int32 → Int32 → Int32 → Int32 → Int32 → Int32 → jZ → jI → jL → Prop} {Q : Int32 → jZ → jI → jL → Prop}
    (hN : ∀ (x : Int32) (I : jI) (L : jL), x.toInt = ((e6 + 1 : Nat) : Int) → (∀ y, y ≠ t45 → I y = J y) → OLs t45 (to % 4) I I0 → (∀ e c : Nat, e < e6 + 1 → c ≤ cN → (I t45 (ix (to % 4) e c)).toInt = 0) → K108 v0 v1 v2 v3 v4 v5 x Z I L) :
    ∀ (k c : Nat) (v7 : Int32) (I : jI) (L : jL), cN + 2 ≤ k + c → c ≤ cN + 1 → v7.toInt = (c : Int) → (∀ y, y ≠ t45 → I y = J y) → OLs t45 (to % 4) I I0 → (∀ e d : Nat, (e < e6 ∨ (e = e6 ∧ d < c)) → d ≤ cN → (I t45 (ix (to % 4) e d)).toInt = 0) → f_X12_countWays_L122 B K90 K108 Q k v0 v1 v2 v3 v4 v5 v6 v7 Z I L := by
  have z1 : (1 : Int32).toInt = 1 := rfl
  intro k
  induction k with
  | zero => intro c v7 I L hk hcc; omega
  | succ k ih =>
    intro c v7 I L hk hcc e7 ho hu hb
    unfold f_X12_countWays_L122
    refine ⟨fun q => ?_, fun q => ?_⟩
    · have q := (i_lt e2 e7).mp q
      intro x ex
      exact hN x I L (by rw [ex]; exact (i_add e6v z1 (by omega) (by omega)).trans (by omega)) ho hu (fun e d he hd => hb e d (by omega) hd)
    have q := (not_congr (i_lt e2 e7)).mp q
    obtain ⟨t1, t2, t3⟩ := i_ix (a := to % 4) (i_mod4 e5 (by omega)) e3 e6v e7 (by omega) (by omega) (by omega)
    intro b hb'; cases h45.symm.trans hb'
    refine ⟨t3, fun I50 e50 x51 e51 => ?_⟩
    rw [t2] at e50
    refine ih (c + 1) x51 I50 L (by omega) (by omega) (by rw [e51]; exact (i_add e7 z1 (by omega) (by omega)).trans (by omega)) (fun y hy => by rw [e50, jpI_ne hy]; exact ho y hy) (fun a e d ha hne he hd => ?_) (fun e d he hd => ?_)
    · rw [e50, jpI_off (ix_ne he (by omega) hd (by omega) (Or.inl hne))]
      exact hu a e d ha hne he hd
    · by_cases c9 : e = e6 ∧ d = c
      · rw [c9.1, c9.2, e50, jpI_at]
        rfl
      · rw [e50, jpI_off (ix_ne (by omega) (by omega) (by omega) (by omega) (by omega))]
        exact hb e d (by omega) hd
theorem cw_L108 {B : Nat × Nat} {Z : jZ} {J I0 : jI} (v0 : Nat) (v1 v2 v3 v4 v5 : Int32) (t9 t45 pi to KN cN : Nat) (h9 : jr Z v0 9 = some t9) (h45 : jr Z v0 45 = some t45) (n9 : t9 ≠ t45) (e1 : v1.toInt = (pi : Int)) (hpi : pi < 6) (eK : (J t9 pi).toInt = (KN : Int)) (hK : KN ≤ 120) (hc : cN ≤ 999) (e2 : v2.toInt = (cN : Int)) (e3 : v3.toInt = 121) (e5 : v5.toInt = (to : Int)) (hto : to ≤ 24)
    {K90 : Nat → Int32 → Int32 → Int32 → Int32 → jZ → jI → jL → Prop} {Q : Int32 → jZ → jI → jL → Prop}
    (hN : ∀ (I : jI) (L : jL), (∀ y, y ≠ t45 → I y = J y) → OLs t45 (to % 4) I I0 → LYs I t45 (to % 4) KN cN (fun _ _ => 0) → ∃ m : Nat, f_X12_countWays_L165 B K90 Q m v0 v1 v2 v3 v4 v5 (1 : Int32) Z I L) :
    ∀ (k e6 : Nat) (v6 : Int32) (I : jI) (L : jL), KN + 2 ≤ k + e6 → e6 ≤ KN + 1 → v6.toInt = (e6 : Int) → (∀ y, y ≠ t45 → I y = J y) → OLs t45 (to % 4) I I0 → (∀ e c : Nat, e < e6 → c ≤ cN → (I t45 (ix (to % 4) e c)).toInt = 0) → f_X12_countWays_L108 B K90 Q k v0 v1 v2 v3 v4 v5 v6 Z I L := by
  have n1 : v1.toNatClampNeg = pi := by have := i_nat e1 (by omega); omega
  have vi1 : vp_in v1 6 := vi_of e1 (by omega) (by omega)
  intro k
  induction k with
  | zero => intro e6 v6 I L hk h1; omega
  | succ k ih =>
    intro e6 v6 I L hk h1 e6v ho hu hb
    unfold f_X12_countWays_L108
    intro b hb'; cases h9.symm.trans hb'
    rw [n1, ho t9 n9]
    refine ⟨vi1, fun q => ?_, fun q => ?_⟩
    · have q := (i_lt eK e6v).mp q
      exact hN I L ho hu (fun e c he hc' => hb e c (by omega) hc')
    have q := (not_congr (i_lt eK e6v)).mp q
    exact ⟨cN + 2, cw_L122 v0 v1 v2 v3 v4 v5 v6 t45 to e6 KN cN h45 hK hc e2 e3 e5 hto e6v (by omega) (fun x I' L' ex o' u' b' => ih (e6 + 1) x I' L' (by omega) (by omega) ex o' u' b') (cN + 2) 0 0 I L (by omega) (by omega) rfl ho hu (fun e d he hd => hb e d (by omega) hd)⟩
/-- the sum over efforts -/
noncomputable def smW (g : Int → Int) : Nat → Int
  | 0 => 0
  | k + 1 => smW g k + g (k : Int)
theorem smW_nn {g : Int → Int} (h : ∀ e, 0 ≤ g e) : ∀ k, 0 ≤ smW g k := by
  intro k
  induction k with
  | zero => exact Int.le_refl 0
  | succ k ih => show 0 ≤ smW g k + g (k : Int); have := h (k : Int); omega
theorem smW_le {g : Int → Int} {b : Int} (h : ∀ e, g e ≤ b) : ∀ k : Nat, smW g k ≤ b * (k : Int) := by
  intro k
  induction k with
  | zero => show (0 : Int) ≤ b * 0; omega
  | succ k ih =>
    show smW g k + g (k : Int) ≤ b * ((k + 1 : Nat) : Int)
    have := h (k : Int)
    have e : b * ((k + 1 : Nat) : Int) = b * (k : Int) + b := by
      rw [show ((k + 1 : Nat) : Int) = (k : Int) + 1 by omega, Int.mul_add, Int.mul_one]
    omega
theorem smW_pos {g : Int → Int} (h : ∀ e, 0 ≤ g e) : ∀ k : Nat, 0 < smW g k ↔ ∃ e : Int, 0 ≤ e ∧ e < (k : Int) ∧ 0 < g e := by
  intro k
  induction k with
  | zero =>
    show (0 : Int) < 0 ↔ _
    exact ⟨fun q => absurd q (by decide), fun ⟨e, a, b, _⟩ => by omega⟩
  | succ k ih =>
    show 0 < smW g k + g (k : Int) ↔ _
    have n1 := smW_nn h k
    have n2 := h (k : Int)
    constructor
    · intro q
      by_cases c : 0 < g (k : Int)
      · exact ⟨(k : Int), by omega, by omega, c⟩
      · obtain ⟨e, a, b, d⟩ := ih.mp (by omega)
        exact ⟨e, a, by omega, d⟩
    · rintro ⟨e, a, b, d⟩
      by_cases c : e = (k : Int)
      · rw [c] at d; omega
      · have := ih.mpr ⟨e, a, by omega, d⟩
        omega
theorem smW_add {g h f : Int → Int} (e : ∀ x, g x = h x + f x) : ∀ k, smW g k = smW h k + smW f k := by
  intro k
  induction k with
  | zero => rfl
  | succ k ih =>
    show smW g k + g (k : Int) = smW h k + h (k : Int) + (smW f k + f (k : Int))
    rw [ih, e]
    omega
theorem cw_L338 {B : Nat × Nat} {Z : jZ} {J : jI} (v0 : Nat) (v1 v2 v3 : Int32) (t9 t45 pi n KN cN : Nat) (h9 : jr Z v0 9 = some t9) (h45 : jr Z v0 45 = some t45) (n9 : t9 ≠ v0) (n45 : t45 ≠ v0) (e1 : v1.toInt = (pi : Int)) (hpi : pi < 6) (eK : (J t9 pi).toInt = (KN : Int)) (hK : KN ≤ 120) (hc : cN ≤ 999) (e2 : v2.toInt = (cN : Int)) (e3 : v3.toInt = 121) (hn0 : (J v0 0).toInt = (n : Int)) (hn : n ≤ 24) (g : Int → Int) (hg : ∀ e, 0 ≤ g e ∧ g e ≤ 1389537) (hy : ∀ e : Nat, e ≤ KN → (J t45 (ix (n % 4) e cN)).toInt = g (e : Int)) {Q : Int32 → jZ → jI → jL → Prop}
    (hQ : ∀ (r : Int32) (I : jI) (L : jL), r.toInt = smW g (KN + 1) → (∀ y, y ≠ v0 → I y = J y) → (∀ j, j ≠ 46 → j ≠ 47 → I v0 j = J v0 j) → Q r Z I L) :
    ∀ (k e : Nat) (v4 v5 : Int32) (I : jI) (L : jL), KN + 2 ≤ k + e → e ≤ KN + 1 → v5.toInt = (e : Int) → v4.toInt = smW g e → (∀ y, y ≠ v0 → I y = J y) → (∀ j, j ≠ 46 → j ≠ 47 → I v0 j = J v0 j) → f_X12_countWays_L338 B Q k v0 v1 v2 v3 v4 v5 Z I L := by
  have z1 : (1 : Int32).toInt = 1 := rfl
  have n1 : v1.toNatClampNeg = pi := by have := i_nat e1 (by omega); omega
  have vi1 : vp_in v1 6 := vi_of e1 (by omega) (by omega)
  intro k
  induction k with
  | zero => intro e v4 v5 I L hk h1; omega
  | succ k ih =>
    intro e v4 v5 I L hk h1 e5 e4 ho hv
    unfold f_X12_countWays_L338
    intro b hb'; cases h9.symm.trans hb'
    rw [n1, ho t9 n9]
    refine ⟨vi1, fun q => ?_, fun q => ?_⟩
    · have q := (i_lt eK e5).mp q
      have ee : e = KN + 1 := by omega
      exact hQ v4 I L (by rw [e4, ee]) ho hv
    have q := (not_congr (i_lt eK e5)).mp q
    have e0 : (I v0 0).toInt = (n : Int) := by rw [hv 0 (by decide) (by decide)]; exact hn0
    obtain ⟨t1, t2, t3⟩ := i_ix (a := n % 4) (i_mod4 e0 (by omega)) e3 e5 e2 (by omega) (by omega) (by omega)
    intro b hb'; cases h45.symm.trans hb'
    refine ⟨t3, fun x8 e8 => ?_⟩
    rw [t2, ho t45 n45] at e8
    have t8 : x8.toInt = g (e : Int) := by rw [e8]; exact hy e (by omega)
    have g9 := hg (e : Int)
    have s0 := smW_nn (fun e => (hg e).1) e
    have s1 := smW_le (fun e => (hg e).2) e
    have nx : ∀ (I' : jI) (L' : jL), (∀ y, y ≠ v0 → I' y = J y) → (∀ j, j ≠ 46 → j ≠ 47 → I' v0 j = J v0 j) → f_X12_countWays_b398 B (f_X12_countWays_L338 B Q k) Q v0 v1 v2 v3 v4 v5 x8 Z I' L' := fun I' L' o' w' => by
      unfold f_X12_countWays_b398
      intro x1 ex1 x2 ex2
      exact ih (e + 1) x1 x2 I' L' (by omega) (by omega) (by rw [ex2]; exact (i_add e5 z1 (by omega) (by omega)).trans (by omega)) (by rw [ex1]; exact i_add e4 t8 (by omega) (by omega)) o' w'
    refine ⟨fun _ => nx I L ho hv, fun _ => ⟨fun _ => nx I L ho hv, fun _ I11 e11 I12 e12 => ?_⟩⟩
    exact nx I12 L (fun y hy' => by rw [e12, jpI_ne hy', e11, jpI_ne hy']; exact ho y hy') (fun j a b => by rw [e12, jpI_off b, e11, jpI_off a]; exact hv j a b)
theorem cw_L90 {B : Nat × Nat} {Z : jZ} {J : jI} (v0 : Nat) (v1 v2 v3 : Int32) (t9 t37 t38 t45 pi lp n KN cN : Nat) (op : Nat → Prop) (C E : Nat → Nat → Int) (hm : MVm Z J v0 t37 t38 lp n op C E) (hlp : lp ≤ 3) (hn : n ≤ 24) (hC : ∀ p f, 0 ≤ C p f ∧ C p f ≤ 297) (hE : ∀ p f, 0 ≤ E p f ∧ E p f ≤ 600) (h9 : jr Z v0 9 = some t9) (h45 : jr Z v0 45 = some t45) (n9 : t9 ≠ t45) (n37 : t37 ≠ t45) (n38 : t38 ≠ t45) (n90 : t9 ≠ v0) (n450 : t45 ≠ v0) (e1 : v1.toInt = (pi : Int)) (hpi : pi < 6) (eK : (J t9 pi).toInt = (KN : Int)) (hK : KN ≤ 120) (hc : cN ≤ 999) (e2 : v2.toInt = (cN : Int)) (e3 : v3.toInt = 121) {Q : Int32 → jZ → jI → jL → Prop}
    (hQ : ∀ (r : Int32) (I : jI) (L : jL), r.toInt = smW (fun e => wy (alw lp op) C E n (cN : Int) e) (KN + 1) → (∀ y, y ≠ v0 → y ≠ t45 → I y = J y) → (∀ j, j ≠ 46 → j ≠ 47 → I v0 j = J v0 j) → Q r Z I L) :
    ∀ (k s : Nat) (v4 : Int32) (I : jI) (L : jL), n + 1 ≤ k + s → s ≤ n → v4.toInt = (s : Int) → (∀ y, y ≠ t45 → I y = J y) → (∀ q, q ≤ s → s ≤ q + 2 → LYs I t45 (q % 4) KN cN (wy (alw lp op) C E q)) → f_X12_countWays_L90 B Q k v0 v1 v2 v3 v4 Z I L := by
  have z1 : (1 : Int32).toInt = 1 := rfl
  have hV : MVt (alw lp op) := fun p f h => by unfold alw at h; omega
  have hn0 := hm.2.1
  intro k
  induction k with
  | zero => intro s v4 I L hk h1; omega
  | succ k ih =>
    intro s v4 I L hk h1 e4 ho hl
    have e0 : (I v0 0).toInt = (n : Int) := by rw [ho v0 n450.symm]; exact hn0
    unfold f_X12_countWays_L90
    refine ⟨fun q => ?_, fun q => ?_⟩
    · have q := (i_le e0 e4).mp q
      have es : s = n := by omega
      subst es
      refine ⟨KN + 2, cw_L338 (J := I) v0 v1 v2 v3 t9 t45 pi s KN cN h9 h45 n90 n450 e1 hpi (by rw [ho t9 n9]; exact eK) hK hc e2 e3 e0 hn (fun e => wy (alw lp op) C E s (cN : Int) e) (fun e => ?_) (fun e he => hl s (Nat.le_refl _) (by omega) e cN he (Nat.le_refl _)) (fun r I' L' hr o' w' => hQ r I' L' hr (fun y a b => (o' y a).trans (ho y b)) (fun j a b => (w' j a b).trans (by rw [ho v0 n450.symm]))) (KN + 2) 0 0 0 I L (by omega) (by omega) rfl rfl (fun _ _ => rfl) (fun _ _ _ => rfl)⟩
      have r := wy_rng (C := C) (E := E) hV s hn (cN : Int) e
      have t := tb_rng s (by omega)
      exact ⟨r.1, by omega⟩
    have q := (not_congr (i_le e0 e4)).mp q
    intro x59 e59
    have t59 : x59.toInt = ((s + 1 : Nat) : Int) := by rw [e59]; exact (i_add e4 z1 (by omega) (by omega)).trans (by omega)
    refine ⟨KN + 2, cw_L108 (I0 := I) v0 v1 v2 v3 v4 x59 t9 t45 pi (s + 1) KN cN h9 h45 n9 e1 hpi eK hK hc e2 e3 t59 (by omega) (fun I1 L1 o1 u1 y1 => ⟨5, ?_⟩) (KN + 2) 0 0 I L (by omega) (by omega) rfl ho (fun _ _ _ _ _ _ _ => rfl) (fun e c he => absurd he (Nat.not_lt_zero e))⟩
    refine cw_L165 (I0 := I1) v0 v1 v2 v3 v4 x59 t9 t37 t38 t45 pi (s + 1) lp n KN cN op C E hm hlp hn hC hE h9 h45 n9 n37 n38 e1 hpi eK hK hc e2 e3 t59 (by omega) (by omega) (fun f f1 f3 ft e c he hc' => ?_) (fun I2 L2 o2 u2 y2 => ?_) 5 1 1 I1 L1 (by omega) (by omega) (by omega) rfl o1 (fun _ _ _ _ _ _ _ => rfl) (fun e c he hc' => by rw [y1 e c he hc']; rfl)
    · rw [u1 ((s + 1 - f) % 4) e c (by omega) (by omega) (by omega) (by omega)]
      exact hl (s + 1 - f) (by omega) (by omega) e c he hc'
    · unfold f_X12_countWays_b326
      intro x13 e13
      refine ih (s + 1) x13 I2 L2 (by omega) (by omega) (by rw [e13]; exact (i_add e4 z1 (by omega) (by omega)).trans (by omega)) o2 (fun q' h1' h2' e c he hc' => ?_)
      by_cases c9 : q' = s + 1
      · subst c9
        exact y2 e c he hc'
      · rw [u2 (q' % 4) e c (by omega) (by omega) (by omega) (by omega), u1 (q' % 4) e c (by omega) (by omega) (by omega) (by omega)]
        exact hl q' (by omega) (by omega) e c he hc'
theorem cw_L47 {B : Nat × Nat} {Z : jZ} {J : jI} (v0 : Nat) (v1 v2 v3 v4 : Int32) (t45 e4 KN cN : Nat) (h45 : jr Z v0 45 = some t45) (hK : KN ≤ 120) (hc : cN ≤ 999) (e2 : v2.toInt = (cN : Int)) (e4v : v4.toInt = (e4 : Int)) (h4 : e4 ≤ KN)
    {K33 : Nat → Int32 → Int32 → Int32 → Int32 → jZ → jI → jL → Prop} {Q : Int32 → jZ → jI → jL → Prop}
    (hN : ∀ (x : Int32) (I : jI) (L : jL), x.toInt = ((e4 + 1 : Nat) : Int) → (∀ y, y ≠ t45 → I y = J y) → (∀ e c : Nat, e < e4 + 1 → c ≤ cN → (I t45 (ix 0 e c)).toInt = 0) → K33 v0 v1 v2 v3 x Z I L) :
    ∀ (k c : Nat) (v5 : Int32) (I : jI) (L : jL), cN + 2 ≤ k + c → c ≤ cN + 1 → v5.toInt = (c : Int) → (∀ y, y ≠ t45 → I y = J y) → (∀ e d : Nat, (e < e4 ∨ (e = e4 ∧ d < c)) → d ≤ cN → (I t45 (ix 0 e d)).toInt = 0) → f_X12_countWays_L47 B K33 Q k v0 v1 v2 v3 v4 v5 Z I L := by
  have z1 : (1 : Int32).toInt = 1 := rfl
  have z1000 : (1000 : Int32).toInt = 1000 := rfl
  intro k
  induction k with
  | zero => intro c v5 I L hk hcc; omega
  | succ k ih =>
    intro c v5 I L hk hcc e5 ho hb
    unfold f_X12_countWays_L47
    refine ⟨fun q => ?_, fun q => ?_⟩
    · have q := (i_lt e2 e5).mp q
      intro x ex
      exact hN x I L (by rw [ex]; exact (i_add e4v z1 (by omega) (by omega)).trans (by omega)) ho (fun e d he hd => hb e d (by omega) hd)
    have q := (not_congr (i_lt e2 e5)).mp q
    have t : ((v4 * (1000 : Int32)) + v5).toInt = ((ix 0 e4 c : Nat) : Int) := (i_add (i_mul e4v z1000 (by omega) (by omega)) e5 (by omega) (by omega)).trans (by unfold ix; omega)
    have tn : ((v4 * (1000 : Int32)) + v5).toNatClampNeg = ix 0 e4 c := by have := i_nat t (by omega); omega
    intro b hb'; cases h45.symm.trans hb'
    refine ⟨vi_of t (by omega) (by unfold ix; omega), fun I65 e65 x66 e66 => ?_⟩
    rw [tn] at e65
    refine ih (c + 1) x66 I65 L (by omega) (by omega) (by rw [e66]; exact (i_add e5 z1 (by omega) (by omega)).trans (by omega)) (fun y hy => by rw [e65, jpI_ne hy]; exact ho y hy) (fun e d he hd => ?_)
    by_cases c9 : e = e4 ∧ d = c
    · rw [c9.1, c9.2, e65, jpI_at]
      rfl
    · rw [e65, jpI_off (ix_ne (by omega) (by omega) (by omega) (by omega) (by omega))]
      exact hb e d (by omega) hd
theorem cw_L33 {B : Nat × Nat} {Z : jZ} {J : jI} (v0 : Nat) (v1 v2 v3 : Int32) (t9 t37 t38 t45 pi lp n KN cN : Nat) (op : Nat → Prop) (C E : Nat → Nat → Int) (hm : MVm Z J v0 t37 t38 lp n op C E) (hlp : lp ≤ 3) (hn : n ≤ 24) (hC : ∀ p f, 0 ≤ C p f ∧ C p f ≤ 297) (hE : ∀ p f, 0 ≤ E p f ∧ E p f ≤ 600) (h9 : jr Z v0 9 = some t9) (h45 : jr Z v0 45 = some t45) (n9 : t9 ≠ t45) (n37 : t37 ≠ t45) (n38 : t38 ≠ t45) (n90 : t9 ≠ v0) (n450 : t45 ≠ v0) (e1 : v1.toInt = (pi : Int)) (hpi : pi < 6) (eK : (J t9 pi).toInt = (KN : Int)) (hK : KN ≤ 120) (hc : cN ≤ 999) (e2 : v2.toInt = (cN : Int)) (e3 : v3.toInt = 121) {Q : Int32 → jZ → jI → jL → Prop}
    (hQ : ∀ (r : Int32) (I : jI) (L : jL), r.toInt = smW (fun e => wy (alw lp op) C E n (cN : Int) e) (KN + 1) → (∀ y, y ≠ v0 → y ≠ t45 → I y = J y) → (∀ j, j ≠ 46 → j ≠ 47 → I v0 j = J v0 j) → Q r Z I L) :
    ∀ (k e4 : Nat) (v4 : Int32) (I : jI) (L : jL), KN + 2 ≤ k + e4 → e4 ≤ KN + 1 → v4.toInt = (e4 : Int) → (∀ y, y ≠ t45 → I y = J y) → (∀ e c : Nat, e < e4 → c ≤ cN → (I t45 (ix 0 e c)).toInt = 0) → f_X12_countWays_L33 B Q k v0 v1 v2 v3 v4 Z I L := by
  have n1 : v1.toNatClampNeg = pi := by have := i_nat e1 (by omega); omega
  have vi1 : vp_in v1 6 := vi_of e1 (by omega) (by omega)
  intro k
  induction k with
  | zero => intro e4 v4 I L hk h1; omega
  | succ k ih =>
    intro e4 v4 I L hk h1 e4v ho hb
    unfold f_X12_countWays_L33
    intro b hb'; cases h9.symm.trans hb'
    rw [n1, ho t9 n9]
    refine ⟨vi1, fun q => ?_, fun q => ?_⟩
    · have q := (i_lt eK e4v).mp q
      intro b hb'; cases h45.symm.trans hb'
      intro I71 e71
      have n0 : (0 : Int32).toNatClampNeg = ix 0 0 0 := rfl
      rw [n0] at e71
      refine ⟨n + 1, cw_L90 v0 v1 v2 v3 t9 t37 t38 t45 pi lp n KN cN op C E hm hlp hn hC hE h9 h45 n9 n37 n38 n90 n450 e1 hpi eK hK hc e2 e3 hQ (n + 1) 0 0 I71 L (by omega) (by omega) rfl (fun y hy => by rw [e71, jpI_ne hy]; exact ho y hy) (fun q' h1' h2' e c he hc' => ?_)⟩
      have q0 : q' = 0 := by omega
      subst q0
      rw [wy_0]
      by_cases c9 : e = 0 ∧ c = 0
      · rw [c9.1, c9.2]
        show (I71 t45 (ix 0 0 0)).toInt = _
        rw [e71, jpI_at, if_pos ⟨rfl, rfl⟩]
        rfl
      · show (I71 t45 (ix 0 e c)).toInt = _
        rw [e71, jpI_off (ix_ne (by omega) (by omega) (by omega) (by omega) (by omega)), hb e c (by omega) hc', if_neg (by omega)]
    have q := (not_congr (i_lt eK e4v)).mp q
    exact ⟨cN + 2, cw_L47 v0 v1 v2 v3 v4 t45 e4 KN cN h45 hK hc e2 e4v (by omega) (fun x I' L' ex o' b' => ih (e4 + 1) x I' L' (by omega) (by omega) ex o' b') (cN + 2) 0 0 I L (by omega) (by omega) rfl ho (fun e d he hd => hb e d (by omega) hd)⟩
/-! ===== what is shown twice holds at once ===== -/
set_option maxHeartbeats 4000000 in
theorem and_X12_countWays_L338 {B : Nat × Nat} {Q1 Q2 Q3 : Int32 → jZ → jI → jL → Prop} (hq : ∀ (x0 : Int32) (x1 : jZ) (x2 : jI) (x3 : jL), Q1 x0 x1 x2 x3 → Q2 x0 x1 x2 x3 → Q3 x0 x1 x2 x3) : ∀ (n m : Nat) (v0 : Nat) (v1 : Int32) (v2 : Int32) (v3 : Int32) (v4 : Int32) (v5 : Int32) (Z : jZ) (I : jI) (L : jL), f_X12_countWays_L338 B Q1 n v0 v1 v2 v3 v4 v5 Z I L → f_X12_countWays_L338 B Q2 m v0 v1 v2 v3 v4 v5 Z I L → f_X12_countWays_L338 B Q3 n v0 v1 v2 v3 v4 v5 Z I L := by
  intro n
  induction n with
  | zero => intro m v0 v1 v2 v3 v4 v5 Z I L h1 h2; exact h1.elim
  | succ n ih =>
    intro m v0 v1 v2 v3 v4 v5 Z I L h1 h2
    cases m with
    | zero => exact h2.elim
    | succ m =>
      unfold f_X12_countWays_L338 at h1 h2 ⊢
      intro b3 eb3
      have h1 := h1 b3 eb3
      have h2 := h2 b3 eb3
      refine ⟨h1.1, ?_⟩
      have h1 := h1.2
      have h2 := h2.2
      refine ⟨fun c => ?_, fun c => ?_⟩
      · have h1 := h1.1 c
        have h2 := h2.1 c
        exact hq _ _ _ _ h1 h2
      · have h1 := h1.2 c
        have h2 := h2.2 c
        intro b6 eb6
        have h1 := h1 b6 eb6
        have h2 := h2 b6 eb6
        refine ⟨h1.1, ?_⟩
        have h1 := h1.2
        have h2 := h2.2
        intro x8 ex8
        have h1 := h1 x8 ex8
        have h2 := h2 x8 ex8
        refine ⟨fun c => ?_, fun c => ?_⟩
        · have h1 := h1.1 c
          have h2 := h2.1 c
          unfold f_X12_countWays_b398 at h1 h2 ⊢
          intro x1 ex1
          have h1 := h1 x1 ex1
          have h2 := h2 x1 ex1
          intro x2 ex2
          have h1 := h1 x2 ex2
          have h2 := h2 x2 ex2
          exact ih _ _ _ _ _ _ _ _ _ _ h1 h2
        · have h1 := h1.2 c
          have h2 := h2.2 c
          refine ⟨fun c => ?_, fun c => ?_⟩
          · have h1 := h1.1 c
            have h2 := h2.1 c
            unfold f_X12_countWays_b398 at h1 h2 ⊢
            intro x1 ex1
            have h1 := h1 x1 ex1
            have h2 := h2 x1 ex1
            intro x2 ex2
            have h1 := h1 x2 ex2
            have h2 := h2 x2 ex2
            exact ih _ _ _ _ _ _ _ _ _ _ h1 h2
          · have h1 := h1.2 c
            have h2 := h2.2 c
            intro I11 eI11
            have h1 := h1 I11 eI11
            have h2 := h2 I11 eI11
            intro I12 eI12
            have h1 := h1 I12 eI12
            have h2 := h2 I12 eI12
            unfold f_X12_countWays_b398 at h1 h2 ⊢
            intro x1 ex1
            have h1 := h1 x1 ex1
            have h2 := h2 x1 ex1
            intro x2 ex2
            have h1 := h1 x2 ex2
            have h2 := h2 x2 ex2
            exact ih _ _ _ _ _ _ _ _ _ _ h1 h2
set_option maxHeartbeats 4000000 in
theorem and_X12_countWays_L241 {B : Nat × Nat} {K90 K90b K90c : Nat → Int32 → Int32 → Int32 → Int32 → jZ → jI → jL → Prop} {K165 K165b K165c : Nat → Int32 → Int32 → Int32 → Int32 → Int32 → Int32 → jZ → jI → jL → Prop} {K221 K221b K221c : Nat → Int32 → Int32 → Int32 → Int32 → Int32 → Int32 → Int32 → Int32 → Int32 → jZ → jI → jL → Prop} {Q1 Q2 Q3 : Int32 → jZ → jI → jL → Prop} (hK90 : ∀ (x0 : Nat) (x1 : Int32) (x2 : Int32) (x3 : Int32) (x4 : Int32) (x5 : jZ) (x6 : jI) (x7 : jL), K90 x0 x1 x2 x3 x4 x5 x6 x7 → K90b x0 x1 x2 x3 x4 x5 x6 x7 → K90c x0 x1 x2 x3 x4 x5 x6 x7) (hK165 : ∀ (x0 : Nat) (x1 : Int32) (x2 : Int32) (x3 : Int32) (x4 : Int32) (x5 : Int32) (x6 : Int32) (x7 : jZ) (x8 : jI) (x9 : jL), K165 x0 x1 x2 x3 x4 x5 x6 x7 x8 x9 → K165b x0 x1 x2 x3 x4 x5 x6 x7 x8 x9 → K165c x0 x1 x2 x3 x4 x5 x6 x7 x8 x9) (hK221 : ∀ (x0 : Nat) (x1 : Int32) (x2 : Int32) (x3 : Int32) (x4 : Int32) (x5 : Int32) (x6 : Int32) (x7 : Int32) (x8 : Int32) (x9 : Int32) (x10 : jZ) (x11 : jI) (x12 : jL), K221 x0 x1 x2 x3 x4 x5 x6 x7 x8 x9 x10 x11 x12 → K221b x0 x1 x2 x3 x4 x5 x6 x7 x8 x9 x10 x11 x12 → K221c x0 x1 x2 x3 x4 x5 x6 x7 x8 x9 x10 x11 x12) (hq : ∀ (x0 : Int32) (x1 : jZ) (x2 : jI) (x3 : jL), Q1 x0 x1 x2 x3 → Q2 x0 x1 x2 x3 → Q3 x0 x1 x2 x3) : ∀ (n m : Nat) (v0 : Nat) (v1 : Int32) (v2 : Int32) (v3 : Int32) (v4 : Int32) (v5 : Int32) (v6 : Int32) (v7 : Int32) (v8 : Int32) (v9 : Int32) (v10 : Int32) (Z : jZ) (I : jI) (L : jL), f_X12_countWays_L241 B K90 K165 K221 Q1 n v0 v1 v2 v3 v4 v5 v6 v7 v8 v9 v10 Z I L → f_X12_countWays_L241 B K90b K165b K221b Q2 m v0 v1 v2 v3 v4 v5 v6 v7 v8 v9 v10 Z I L → f_X12_countWays_L241 B K90c K165c K221c Q3 n v0 v1 v2 v3 v4 v5 v6 v7 v8 v9 v10 Z I L := by
  intro n
  induction n with
  | zero => intro m v0 v1 v2 v3 v4 v5 v6 v7 v8 v9 v10 Z I L h1 h2; exact h1.elim
  | succ n ih =>
    intro m v0 v1 v2 v3 v4 v5 v6 v7 v8 v9 v10 Z I L h1 h2
    cases m with
    | zero => exact h2.elim
    | succ m =>
      unfold f_X12_countWays_L241 at h1 h2 ⊢
      refine ⟨fun c => ?_, fun c => ?_⟩
      · have h1 := h1.1 c
        have h2 := h2.1 c
        intro x16 ex16
        have h1 := h1 x16 ex16
        have h2 := h2 x16 ex16
        exact hK221 _ _ _ _ _ _ _ _ _ _ _ _ _ h1 h2
      · have h1 := h1.2 c
        have h2 := h2.2 c
        intro b17 eb17
        have h1 := h1 b17 eb17
        have h2 := h2 b17 eb17
        refine ⟨h1.1, ?_⟩
        have h1 := h1.2
        have h2 := h2.2
        intro b19 eb19
        have h1 := h1 b19 eb19
        have h2 := h2 b19 eb19
        intro b20 eb20
        have h1 := h1 b20 eb20
        have h2 := h2 b20 eb20
        refine ⟨h1.1, ?_⟩
        have h1 := h1.2
        have h2 := h2.2
        intro b22 eb22
        have h1 := h1 b22 eb22
        have h2 := h2 b22 eb22
        refine ⟨h1.1, ?_⟩
        have h1 := h1.2
        have h2 := h2.2
        refine ⟨h1.1, ?_⟩
        have h1 := h1.2
        have h2 := h2.2
        refine ⟨h1.1, ?_⟩
        have h1 := h1.2
        have h2 := h2.2
        intro I26 eI26
        have h1 := h1 I26 eI26
        have h2 := h2 I26 eI26
        intro x27 ex27
        have h1 := h1 x27 ex27
        have h2 := h2 x27 ex27
        exact ih _ _ _ _ _ _ _ _ _ _ _ _ _ _ _ h1 h2
set_option maxHeartbeats 4000000 in
theorem and_X12_countWays_L221 {B : Nat × Nat} {K90 K90b K90c : Nat → Int32 → Int32 → Int32 → Int32 → jZ → jI → jL → Prop} {K165 K165b K165c : Nat → Int32 → Int32 → Int32 → Int32 → Int32 → Int32 → jZ → jI → jL → Prop} {Q1 Q2 Q3 : Int32 → jZ → jI → jL → Prop} (hK90 : ∀ (x0 : Nat) (x1 : Int32) (x2 : Int32) (x3 : Int32) (x4 : Int32) (x5 : jZ) (x6 : jI) (x7 : jL), K90 x0 x1 x2 x3 x4 x5 x6 x7 → K90b x0 x1 x2 x3 x4 x5 x6 x7 → K90c x0 x1 x2 x3 x4 x5 x6 x7) (hK165 : ∀ (x0 : Nat) (x1 : Int32) (x2 : Int32) (x3 : Int32) (x4 : Int32) (x5 : Int32) (x6 : Int32) (x7 : jZ) (x8 : jI) (x9 : jL), K165 x0 x1 x2 x3 x4 x5 x6 x7 x8 x9 → K165b x0 x1 x2 x3 x4 x5 x6 x7 x8 x9 → K165c x0 x1 x2 x3 x4 x5 x6 x7 x8 x9) (hq : ∀ (x0 : Int32) (x1 : jZ) (x2 : jI) (x3 : jL), Q1 x0 x1 x2 x3 → Q2 x0 x1 x2 x3 → Q3 x0 x1 x2 x3) : ∀ (n m : Nat) (v0 : Nat) (v1 : Int32) (v2 : Int32) (v3 : Int32) (v4 : Int32) (v5 : Int32) (v6 : Int32) (v7 : Int32) (v8 : Int32) (v9 : Int32) (Z : jZ) (I : jI) (L : jL), f_X12_countWays_L221 B K90 K165 Q1 n v0 v1 v2 v3 v4 v5 v6 v7 v8 v9 Z I L → f_X12_countWays_L221 B K90b K165b Q2 m v0 v1 v2 v3 v4 v5 v6 v7 v8 v9 Z I L → f_X12_countWays_L221 B K90c K165c Q3 n v0 v1 v2 v3 v4 v5 v6 v7 v8 v9 Z I L := by
  intro n
  induction n with
  | zero => intro m v0 v1 v2 v3 v4 v5 v6 v7 v8 v9 Z I L h1 h2; exact h1.elim
  | succ n ih =>
    intro m v0 v1 v2 v3 v4 v5 v6 v7 v8 v9 Z I L h1 h2
    cases m with
    | zero => exact h2.elim
    | succ m =>
      unfold f_X12_countWays_L221 at h1 h2 ⊢
      intro b28 eb28
      have h1 := h1 b28 eb28
      have h2 := h2 b28 eb28
      refine ⟨h1.1, ?_⟩
      have h1 := h1.2
      have h2 := h2.2
      refine ⟨fun c => ?_, fun c => ?_⟩
      · have h1 := h1.1 c
        have h2 := h2.1 c
        unfold f_X12_countWays_b320 at h1 h2 ⊢
        intro x14 ex14
        have h1 := h1 x14 ex14
        have h2 := h2 x14 ex14
        exact hK165 _ _ _ _ _ _ _ _ _ _ h1 h2
      · have h1 := h1.2 c
        have h2 := h2.2 c
        intro b31 eb31
        have h1 := h1 b31 eb31
        have h2 := h2 b31 eb31
        refine ⟨h1.1, ?_⟩
        have h1 := h1.2
        have h2 := h2.2
        intro x33 ex33
        have h1 := h1 x33 ex33
        have h2 := h2 x33 ex33
        obtain ⟨n1, h1⟩ := h1
        obtain ⟨n2, h2⟩ := h2
        exact ⟨n1, and_X12_countWays_L241 hK90 hK165 (fun _ _ _ _ _ _ _ _ _ _ _ _ _ a b => ih _ _ _ _ _ _ _ _ _ _ _ _ _ _ a b) hq n1 n2 _ _ _ _ _ _ _ _ _ _ _ _ _ _ h1 h2⟩
set_option maxHeartbeats 4000000 in
theorem and_X12_countWays_L165 {B : Nat × Nat} {K90 K90b K90c : Nat → Int32 → Int32 → Int32 → Int32 → jZ → jI → jL → Prop} {Q1 Q2 Q3 : Int32 → jZ → jI → jL → Prop} (hK90 : ∀ (x0 : Nat) (x1 : Int32) (x2 : Int32) (x3 : Int32) (x4 : Int32) (x5 : jZ) (x6 : jI) (x7 : jL), K90 x0 x1 x2 x3 x4 x5 x6 x7 → K90b x0 x1 x2 x3 x4 x5 x6 x7 → K90c x0 x1 x2 x3 x4 x5 x6 x7) (hq : ∀ (x0 : Int32) (x1 : jZ) (x2 : jI) (x3 : jL), Q1 x0 x1 x2 x3 → Q2 x0 x1 x2 x3 → Q3 x0 x1 x2 x3) : ∀ (n m : Nat) (v0 : Nat) (v1 : Int32) (v2 : Int32) (v3 : Int32) (v4 : Int32) (v5 : Int32) (v6 : Int32) (Z : jZ) (I : jI) (L : jL), f_X12_countWays_L165 B K90 Q1 n v0 v1 v2 v3 v4 v5 v6 Z I L → f_X12_countWays_L165 B K90b Q2 m v0 v1 v2 v3 v4 v5 v6 Z I L → f_X12_countWays_L165 B K90c Q3 n v0 v1 v2 v3 v4 v5 v6 Z I L := by
  intro n
  induction n with
  | zero => intro m v0 v1 v2 v3 v4 v5 v6 Z I L h1 h2; exact h1.elim
  | succ n ih =>
    intro m v0 v1 v2 v3 v4 v5 v6 Z I L h1 h2
    cases m with
    | zero => exact h2.elim
    | succ m =>
      unfold f_X12_countWays_L165 at h1 h2 ⊢
      refine ⟨fun c => ?_, fun c => ?_⟩
      · have h1 := h1.1 c
        have h2 := h2.1 c
        unfold f_X12_countWays_b326 at h1 h2 ⊢
        intro x13 ex13
        have h1 := h1 x13 ex13
        have h2 := h2 x13 ex13
        exact hK90 _ _ _ _ _ _ _ _ h1 h2
      · have h1 := h1.2 c
        have h2 := h2.2 c
        refine ⟨fun c => ?_, fun c => ?_⟩
        · have h1 := h1.1 c
          have h2 := h2.1 c
          unfold f_X12_countWays_b326 at h1 h2 ⊢
          intro x13 ex13
          have h1 := h1 x13 ex13
          have h2 := h2 x13 ex13
          exact hK90 _ _ _ _ _ _ _ _ h1 h2
        · have h1 := h1.2 c
          have h2 := h2.2 c
          intro x37 ex37
          have h1 := h1 x37 ex37
          have h2 := h2 x37 ex37
          intro x38 ex38
          have h1 := h1 x38 ex38
          have h2 := h2 x38 ex38
          intro b39 eb39
          have h1 := h1 b39 eb39
          have h2 := h2 b39 eb39
          refine ⟨h1.1, ?_⟩
          have h1 := h1.2
          have h2 := h2.2
          refine ⟨fun c => ?_, fun c => ?_⟩
          · have h1 := h1.1 c
            have h2 := h2.1 c
            intro b42 eb42
            have h1 := h1 b42 eb42
            have h2 := h2 b42 eb42
            refine ⟨h1.1, ?_⟩
            have h1 := h1.2
            have h2 := h2.2
            intro x44 ex44
            have h1 := h1 x44 ex44
            have h2 := h2 x44 ex44
            obtain ⟨n1, h1⟩ := h1
            obtain ⟨n2, h2⟩ := h2
            exact ⟨n1, and_X12_countWays_L221 hK90 (fun _ _ _ _ _ _ _ _ _ _ a b => ih _ _ _ _ _ _ _ _ _ _ _ a b) hq n1 n2 _ _ _ _ _ _ _ _ _ _ _ _ _ h1 h2⟩
          · have h1 := h1.2 c
            have h2 := h2.2 c
            unfold f_X12_countWays_b320 at h1 h2 ⊢
            intro x14 ex14
            have h1 := h1 x14 ex14
            have h2 := h2 x14 ex14
            exact ih _ _ _ _ _ _ _ _ _ _ _ h1 h2
set_option maxHeartbeats 4000000 in
theorem and_X12_countWays_L122 {B : Nat × Nat} {K90 K90b K90c : Nat → Int32 → Int32 → Int32 → Int32 → jZ → jI → jL → Prop} {K108 K108b K108c : Nat → Int32 → Int32 → Int32 → Int32 → Int32 → Int32 → jZ → jI → jL → Prop} {Q1 Q2 Q3 : Int32 → jZ → jI → jL → Prop} (hK90 : ∀ (x0 : Nat) (x1 : Int32) (x2 : Int32) (x3 : Int32) (x4 : Int32) (x5 : jZ) (x6 : jI) (x7 : jL), K90 x0 x1 x2 x3 x4 x5 x6 x7 → K90b x0 x1 x2 x3 x4 x5 x6 x7 → K90c x0 x1 x2 x3 x4 x5 x6 x7) (hK108 : ∀ (x0 : Nat) (x1 : Int32) (x2 : Int32) (x3 : Int32) (x4 : Int32) (x5 : Int32) (x6 : Int32) (x7 : jZ) (x8 : jI) (x9 : jL), K108 x0 x1 x2 x3 x4 x5 x6 x7 x8 x9 → K108b x0 x1 x2 x3 x4 x5 x6 x7 x8 x9 → K108c x0 x1 x2 x3 x4 x5 x6 x7 x8 x9) (hq : ∀ (x0 : Int32) (x1 : jZ) (x2 : jI) (x3 : jL), Q1 x0 x1 x2 x3 → Q2 x0 x1 x2 x3 → Q3 x0 x1 x2 x3) : ∀ (n m : Nat) (v0 : Nat) (v1 : Int32) (v2 : Int32) (v3 : Int32) (v4 : Int32) (v5 : Int32) (v6 : Int32) (v7 : Int32) (Z : jZ) (I : jI) (L : jL), f_X12_countWays_L122 B K90 K108 Q1 n v0 v1 v2 v3 v4 v5 v6 v7 Z I L → f_X12_countWays_L122 B K90b K108b Q2 m v0 v1 v2 v3 v4 v5 v6 v7 Z I L → f_X12_countWays_L122 B K90c K108c Q3 n v0 v1 v2 v3 v4 v5 v6 v7 Z I L := by
  intro n
  induction n with
  | zero => intro m v0 v1 v2 v3 v4 v5 v6 v7 Z I L h1 h2; exact h1.elim
  | succ n ih =>
    intro m v0 v1 v2 v3 v4 v5 v6 v7 Z I L h1 h2
    cases m with
    | zero => exact h2.elim
    | succ m =>
      unfold f_X12_countWays_L122 at h1 h2 ⊢
      refine ⟨fun c => ?_, fun c => ?_⟩
      · have h1 := h1.1 c
        have h2 := h2.1 c
        intro x47 ex47
        have h1 := h1 x47 ex47
        have h2 := h2 x47 ex47
        exact hK108 _ _ _ _ _ _ _ _ _ _ h1 h2
      · have h1 := h1.2 c
        have h2 := h2.2 c
        intro b48 eb48
        have h1 := h1 b48 eb48
        have h2 := h2 b48 eb48
        refine ⟨h1.1, ?_⟩
        have h1 := h1.2
        have h2 := h2.2
        intro I50 eI50
        have h1 := h1 I50 eI50
        have h2 := h2 I50 eI50
        intro x51 ex51
        have h1 := h1 x51 ex51
        have h2 := h2 x51 ex51
        exact ih _ _ _ _ _ _ _ _ _ _ _ _ h1 h2
set_option maxHeartbeats 4000000 in
theorem and_X12_countWays_L108 {B : Nat × Nat} {K90 K90b K90c : Nat → Int32 → Int32 → Int32 → Int32 → jZ → jI → jL → Prop} {Q1 Q2 Q3 : Int32 → jZ → jI → jL → Prop} (hK90 : ∀ (x0 : Nat) (x1 : Int32) (x2 : Int32) (x3 : Int32) (x4 : Int32) (x5 : jZ) (x6 : jI) (x7 : jL), K90 x0 x1 x2 x3 x4 x5 x6 x7 → K90b x0 x1 x2 x3 x4 x5 x6 x7 → K90c x0 x1 x2 x3 x4 x5 x6 x7) (hq : ∀ (x0 : Int32) (x1 : jZ) (x2 : jI) (x3 : jL), Q1 x0 x1 x2 x3 → Q2 x0 x1 x2 x3 → Q3 x0 x1 x2 x3) : ∀ (n m : Nat) (v0 : Nat) (v1 : Int32) (v2 : Int32) (v3 : Int32) (v4 : Int32) (v5 : Int32) (v6 : Int32) (Z : jZ) (I : jI) (L : jL), f_X12_countWays_L108 B K90 Q1 n v0 v1 v2 v3 v4 v5 v6 Z I L → f_X12_countWays_L108 B K90b Q2 m v0 v1 v2 v3 v4 v5 v6 Z I L → f_X12_countWays_L108 B K90c Q3 n v0 v1 v2 v3 v4 v5 v6 Z I L := by
  intro n
  induction n with
  | zero => intro m v0 v1 v2 v3 v4 v5 v6 Z I L h1 h2; exact h1.elim
  | succ n ih =>
    intro m v0 v1 v2 v3 v4 v5 v6 Z I L h1 h2
    cases m with
    | zero => exact h2.elim
    | succ m =>
      unfold f_X12_countWays_L108 at h1 h2 ⊢
      intro b52 eb52
      have h1 := h1 b52 eb52
      have h2 := h2 b52 eb52
      refine ⟨h1.1, ?_⟩
      have h1 := h1.2
      have h2 := h2.2
      refine ⟨fun c => ?_, fun c => ?_⟩
      · have h1 := h1.1 c
        have h2 := h2.1 c
        obtain ⟨n1, h1⟩ := h1
        obtain ⟨n2, h2⟩ := h2
        exact ⟨n1, and_X12_countWays_L165 hK90 hq n1 n2 _ _ _ _ _ _ _ _ _ _ h1 h2⟩
      · have h1 := h1.2 c
        have h2 := h2.2 c
        obtain ⟨n1, h1⟩ := h1
        obtain ⟨n2, h2⟩ := h2
        exact ⟨n1, and_X12_countWays_L122 hK90 (fun _ _ _ _ _ _ _ _ _ _ a b => ih _ _ _ _ _ _ _ _ _ _ _ a b) hq n1 n2 _ _ _ _ _ _ _ _ _ _ _ h1 h2⟩
set_option maxHeartbeats 4000000 in
theorem and_X12_countWays_L90 {B : Nat × Nat} {Q1 Q2 Q3 : Int32 → jZ → jI → jL → Prop} (hq : ∀ (x0 : Int32) (x1 : jZ) (x2 : jI) (x3 : jL), Q1 x0 x1 x2 x3 → Q2 x0 x1 x2 x3 → Q3 x0 x1 x2 x3) : ∀ (n m : Nat) (v0 : Nat) (v1 : Int32) (v2 : Int32) (v3 : Int32) (v4 : Int32) (Z : jZ) (I : jI) (L : jL), f_X12_countWays_L90 B Q1 n v0 v1 v2 v3 v4 Z I L → f_X12_countWays_L90 B Q2 m v0 v1 v2 v3 v4 Z I L → f_X12_countWays_L90 B Q3 n v0 v1 v2 v3 v4 Z I L := by
  intro n
  induction n with
  | zero => intro m v0 v1 v2 v3 v4 Z I L h1 h2; exact h1.elim
  | succ n ih =>
    intro m v0 v1 v2 v3 v4 Z I L h1 h2
    cases m with
    | zero => exact h2.elim
    | succ m =>
      unfold f_X12_countWays_L90 at h1 h2 ⊢
      refine ⟨fun c => ?_, fun c => ?_⟩
      · have h1 := h1.1 c
        have h2 := h2.1 c
        obtain ⟨n1, h1⟩ := h1
        obtain ⟨n2, h2⟩ := h2
        exact ⟨n1, and_X12_countWays_L338  hq n1 n2 _ _ _ _ _ _ _ _ _ h1 h2⟩
      · have h1 := h1.2 c
        have h2 := h2.2 c
        intro x59 ex59
        have h1 := h1 x59 ex59
        have h2 := h2 x59 ex59
        obtain ⟨n1, h1⟩ := h1
        obtain ⟨n2, h2⟩ := h2
        exact ⟨n1, and_X12_countWays_L108 (fun _ _ _ _ _ _ _ _ a b => ih _ _ _ _ _ _ _ _ _ a b) hq n1 n2 _ _ _ _ _ _ _ _ _ _ h1 h2⟩
set_option maxHeartbeats 4000000 in
theorem and_X12_countWays_L47 {B : Nat × Nat} {K33 K33b K33c : Nat → Int32 → Int32 → Int32 → Int32 → jZ → jI → jL → Prop} {Q1 Q2 Q3 : Int32 → jZ → jI → jL → Prop} (hK33 : ∀ (x0 : Nat) (x1 : Int32) (x2 : Int32) (x3 : Int32) (x4 : Int32) (x5 : jZ) (x6 : jI) (x7 : jL), K33 x0 x1 x2 x3 x4 x5 x6 x7 → K33b x0 x1 x2 x3 x4 x5 x6 x7 → K33c x0 x1 x2 x3 x4 x5 x6 x7) (hq : ∀ (x0 : Int32) (x1 : jZ) (x2 : jI) (x3 : jL), Q1 x0 x1 x2 x3 → Q2 x0 x1 x2 x3 → Q3 x0 x1 x2 x3) : ∀ (n m : Nat) (v0 : Nat) (v1 : Int32) (v2 : Int32) (v3 : Int32) (v4 : Int32) (v5 : Int32) (Z : jZ) (I : jI) (L : jL), f_X12_countWays_L47 B K33 Q1 n v0 v1 v2 v3 v4 v5 Z I L → f_X12_countWays_L47 B K33b Q2 m v0 v1 v2 v3 v4 v5 Z I L → f_X12_countWays_L47 B K33c Q3 n v0 v1 v2 v3 v4 v5 Z I L := by
  intro n
  induction n with
  | zero => intro m v0 v1 v2 v3 v4 v5 Z I L h1 h2; exact h1.elim
  | succ n ih =>
    intro m v0 v1 v2 v3 v4 v5 Z I L h1 h2
    cases m with
    | zero => exact h2.elim
    | succ m =>
      unfold f_X12_countWays_L47 at h1 h2 ⊢
      refine ⟨fun c => ?_, fun c => ?_⟩
      · have h1 := h1.1 c
        have h2 := h2.1 c
        intro x62 ex62
        have h1 := h1 x62 ex62
        have h2 := h2 x62 ex62
        exact hK33 _ _ _ _ _ _ _ _ h1 h2
      · have h1 := h1.2 c
        have h2 := h2.2 c
        intro b63 eb63
        have h1 := h1 b63 eb63
        have h2 := h2 b63 eb63
        refine ⟨h1.1, ?_⟩
        have h1 := h1.2
        have h2 := h2.2
        intro I65 eI65
        have h1 := h1 I65 eI65
        have h2 := h2 I65 eI65
        intro x66 ex66
        have h1 := h1 x66 ex66
        have h2 := h2 x66 ex66
        exact ih _ _ _ _ _ _ _ _ _ _ h1 h2
set_option maxHeartbeats 4000000 in
theorem and_X12_countWays_L33 {B : Nat × Nat} {Q1 Q2 Q3 : Int32 → jZ → jI → jL → Prop} (hq : ∀ (x0 : Int32) (x1 : jZ) (x2 : jI) (x3 : jL), Q1 x0 x1 x2 x3 → Q2 x0 x1 x2 x3 → Q3 x0 x1 x2 x3) : ∀ (n m : Nat) (v0 : Nat) (v1 : Int32) (v2 : Int32) (v3 : Int32) (v4 : Int32) (Z : jZ) (I : jI) (L : jL), f_X12_countWays_L33 B Q1 n v0 v1 v2 v3 v4 Z I L → f_X12_countWays_L33 B Q2 m v0 v1 v2 v3 v4 Z I L → f_X12_countWays_L33 B Q3 n v0 v1 v2 v3 v4 Z I L := by
  intro n
  induction n with
  | zero => intro m v0 v1 v2 v3 v4 Z I L h1 h2; exact h1.elim
  | succ n ih =>
    intro m v0 v1 v2 v3 v4 Z I L h1 h2
    cases m with
    | zero => exact h2.elim
    | succ m =>
      unfold f_X12_countWays_L33 at h1 h2 ⊢
      intro b67 eb67
      have h1 := h1 b67 eb67
      have h2 := h2 b67 eb67
      refine ⟨h1.1, ?_⟩
      have h1 := h1.2
      have h2 := h2.2
      refine ⟨fun c => ?_, fun c => ?_⟩
      · have h1 := h1.1 c
        have h2 := h2.1 c
        intro b70 eb70
        have h1 := h1 b70 eb70
        have h2 := h2 b70 eb70
        intro I71 eI71
        have h1 := h1 I71 eI71
        have h2 := h2 I71 eI71
        obtain ⟨n1, h1⟩ := h1
        obtain ⟨n2, h2⟩ := h2
        exact ⟨n1, and_X12_countWays_L90  hq n1 n2 _ _ _ _ _ _ _ _ h1 h2⟩
      · have h1 := h1.2 c
        have h2 := h2.2 c
        obtain ⟨n1, h1⟩ := h1
        obtain ⟨n2, h2⟩ := h2
        exact ⟨n1, and_X12_countWays_L47 (fun _ _ _ _ _ _ _ _ a b => ih _ _ _ _ _ _ _ _ _ a b) hq n1 n2 _ _ _ _ _ _ _ _ _ h1 h2⟩
set_option maxHeartbeats 4000000 in
theorem and_X12_countWays {B : Nat × Nat} {v0 : Nat} {v1 : Int32} {v2 : Int32} {Z : jZ} {I : jI} {L : jL} {Q1 Q2 Q3 : Int32 → jZ → jI → jL → Prop} (h1 : f_X12_countWays B v0 v1 v2 Z I L Q1) (h2 : f_X12_countWays B v0 v1 v2 Z I L Q2) (hq : ∀ (x0 : Int32) (x1 : jZ) (x2 : jI) (x3 : jL), Q1 x0 x1 x2 x3 → Q2 x0 x1 x2 x3 → Q3 x0 x1 x2 x3) : f_X12_countWays B v0 v1 v2 Z I L Q3 := by
  unfold f_X12_countWays at h1 h2 ⊢
  intro I74 eI74
  have h1 := h1 I74 eI74
  have h2 := h2 I74 eI74
  intro I75 eI75
  have h1 := h1 I75 eI75
  have h2 := h2 I75 eI75
  intro b76 eb76
  have h1 := h1 b76 eb76
  have h2 := h2 b76 eb76
  refine ⟨h1.1, ?_⟩
  have h1 := h1.2
  have h2 := h2.2
  refine ⟨fun c => ?_, fun c => ?_⟩
  · have h1 := h1.1 c
    have h2 := h2.1 c
    refine and_X12_layMoves h1 h2 (fun Z80 I81 L82 h1 h2 => ?_)
    obtain ⟨n1, h1⟩ := h1
    obtain ⟨n2, h2⟩ := h2
    exact ⟨n1, and_X12_countWays_L33  hq n1 n2 _ _ _ _ _ _ _ _ h1 h2⟩
  · have h1 := h1.2 c
    have h2 := h2.2 c
    exact hq _ _ _ _ h1 h2
/-! ===== the reference: trod, who ===== -/
theorem s3_add {g h k : Nat → Int} (e : ∀ f, 1 ≤ f → f ≤ 3 → g f = h f + k f) : s3 g = s3 h + s3 k := by
  unfold s3
  rw [e 1 (by decide) (by decide), e 2 (by decide) (by decide), e 3 (by decide) (by decide)]
  omega
/-- climbs are those that tread a step and those that don't -/
theorem wy_split {lp t : Nat} {op op' : Nat → Prop} {C E : Nat → Nat → Int} (ho : ∀ p, op' p ↔ op p ∧ p ≠ t) : ∀ p : Nat, (p < t → ∀ c e, wy (Mm lp op ((t : Int) - 1)) C E p c e = wy (alw lp op) C E p c e ∧ wy (alw lp op') C E p c e = wy (alw lp op) C E p c e) ∧ (1 ≤ t → t ≤ p → ∀ c e, wy (alw lp op) C E p c e = wy (Mm lp op ((t : Int) - 1)) C E p c e + wy (alw lp op') C E p c e) := by
  have hV : MVt (alw lp op) := fun p f h => by unfold alw at h; omega
  have hV' : MVt (alw lp op') := fun p f h => by unfold alw at h; omega
  have hVm : MVt (Mm lp op ((t : Int) - 1)) := fun p f h => by have := h.1; unfold alw at this; omega
  intro p
  induction p using Nat.strongRecOn with
  | ind p ih =>
    have al : ∀ f, p ≠ t → (alw lp op' p f ↔ alw lp op p f) := fun f hne => ⟨fun h => ⟨h.1, h.2.1, h.2.2.1, ((ho p).mp h.2.2.2).1⟩, fun h => ⟨h.1, h.2.1, h.2.2.1, (ho p).mpr ⟨h.2.2.2, hne⟩⟩⟩
    refine ⟨fun hp c e => ?_, fun t1 hp c e => ?_⟩
    · by_cases h0 : p = 0
      · subst h0
        exact ⟨by rw [wy_0, wy_0], by rw [wy_0, wy_0]⟩
      · rw [wy_rec hV (by omega), wy_rec hVm (by omega), wy_rec hV' (by omega)]
        refine ⟨s3_cg (fun f h1 h3 => ?_), s3_cg (fun f h1 h3 => ?_)⟩
        · show sel (Mm lp op ((t : Int) - 1) p f) _ 0 = sel (alw lp op p f) _ 0
          by_cases h : alw lp op p f
          · have hm : Mm lp op ((t : Int) - 1) p f := ⟨h, fun q => by omega⟩
            rw [sel_y h, sel_y hm]
            exact ((ih (p - f) (by omega)).1 (by omega) _ _).1
          · rw [sel_n h, sel_n (fun q => h q.1)]
        · show sel (alw lp op' p f) _ 0 = sel (alw lp op p f) _ 0
          by_cases h : alw lp op p f
          · rw [sel_y h, sel_y ((al f (by omega)).mpr h)]
            exact ((ih (p - f) (by omega)).1 (by omega) _ _).2
          · rw [sel_n h, sel_n (fun q => h ((al f (by omega)).mp q))]
    · rw [wy_rec hV (by omega), wy_rec hVm (by omega), wy_rec hV' (by omega)]
      refine s3_add (fun f h1 h3 => ?_)
      show sel (alw lp op p f) _ 0 = sel (Mm lp op ((t : Int) - 1) p f) _ 0 + sel (alw lp op' p f) _ 0
      by_cases h : alw lp op p f
      · have fp := h.2.2.1
        by_cases c1 : p = t
        · have hm : Mm lp op ((t : Int) - 1) p f := ⟨h, fun q => by omega⟩
          rw [sel_y h, sel_y hm, sel_n (fun q => ((ho p).mp q.2.2.2).2 c1), Int.add_zero]
          exact ((ih (p - f) (by omega)).1 (by omega) _ _).1.symm
        · rw [sel_y h, sel_y ((al f c1).mpr h)]
          by_cases c2 : p - f < t
          · rw [sel_n (fun q => q.2 ⟨by omega, by omega⟩), Int.zero_add]
            exact ((ih (p - f) (by omega)).1 c2 _ _).2.symm
          · have hm : Mm lp op ((t : Int) - 1) p f := ⟨h, fun q => by omega⟩
            rw [sel_y hm]
            exact (ih (p - f) (by omega)).2 t1 (by omega) _ _
      · have h' : ¬ alw lp op' p f := fun q => h ⟨q.1, q.2.1, q.2.2.1, ((ho p).mp q.2.2.2).1⟩
        rw [sel_n h, sel_n h', sel_n (fun q => h q.1)]
        rfl
theorem Mm_all {lp : Nat} {op : Nat → Prop} : Mm lp op (-1) = alw lp op := by
  funext p f
  refine propext ⟨fun h => h.1, fun h => ⟨h, fun q => ?_⟩⟩
  have := h.2.2.1
  omega
/-- how many climbs cost just so much, a step being shut (-1: none) -/
noncomputable def CWn (lp : Nat) (op : Nat → Prop) (C E : Nat → Nat → Int) (n : Nat) (K P cost : Int) : Int := if cost ≤ P then smW (fun e => wy (alw lp op) C E n cost e) (K.toNat + 1) else 0
theorem CWn_rng {lp n : Nat} {op : Nat → Prop} {C E : Nat → Nat → Int} {K P cost : Int} (hn : n ≤ 24) (hK : K ≤ 120) : 0 ≤ CWn lp op C E n K P cost ∧ CWn lp op C E n K P cost ≤ 200000000 := by
  have hV : MVt (alw lp op) := fun p f h => by unfold alw at h; omega
  have g : ∀ e, 0 ≤ wy (alw lp op) C E n cost e ∧ wy (alw lp op) C E n cost e ≤ 1389537 := fun e => by
    have a := wy_rng (C := C) (E := E) hV n hn cost e
    have b := tb_rng n (by omega)
    omega
  unfold CWn
  split
  · have a : 0 ≤ smW (fun e => wy (alw lp op) C E n cost e) (K.toNat + 1) := smW_nn (fun e => (g e).1) (K.toNat + 1)
    have b : smW (fun e => wy (alw lp op) C E n cost e) (K.toNat + 1) ≤ _ := smW_le (fun e => (g e).2) (K.toNat + 1)
    omega
  · omega
theorem CWn_pos {lp n : Nat} {op : Nat → Prop} {C E : Nat → Nat → Int} {K P cost : Int} (hn : n ≤ 24) (hK : 0 ≤ K) : 0 < CWn lp op C E n K P cost ↔ TLs (alw lp op) C E n K P cost := by
  have hV : MVt (alw lp op) := fun p f h => by unfold alw at h; omega
  unfold CWn TLs
  by_cases c : cost ≤ P
  · rw [if_pos c, smW_pos (fun e => (wy_rng hV n hn cost e).1)]
    exact ⟨fun ⟨e, a, b, d⟩ => ⟨c, e, a, by omega, d⟩, fun ⟨_, e, a, b, d⟩ => ⟨e, a, by omega, d⟩⟩
  · rw [if_neg c]
    exact ⟨fun q => absurd q (by decide), fun q => absurd q.1 c⟩
theorem CWn_sub {lp n t : Nat} {op op' : Nat → Prop} {C E : Nat → Nat → Int} {K P cost : Int} (ho : ∀ p, op' p ↔ op p ∧ p ≠ t) (t1 : 1 ≤ t) (tn : t ≤ n) (hn : n ≤ 24) (hK : 0 ≤ K) : 0 < CWn lp op C E n K P cost - CWn lp op' C E n K P cost ↔ TLs (Mm lp op ((t : Int) - 1)) C E n K P cost := by
  have hVm : MVt (Mm lp op ((t : Int) - 1)) := fun p f h => by have := h.1; unfold alw at this; omega
  unfold CWn TLs
  by_cases c : cost ≤ P
  · rw [if_pos c, if_pos c, smW_add (g := fun e => wy (alw lp op) C E n cost e) (h := fun e => wy (Mm lp op ((t : Int) - 1)) C E n cost e) (f := fun e => wy (alw lp op') C E n cost e) (fun e => (wy_split ho n).2 t1 tn cost e) (K.toNat + 1)]
    have p := smW_pos (g := fun e => wy (Mm lp op ((t : Int) - 1)) C E n cost e) (fun e => (wy_rng hVm n hn cost e).1) (K.toNat + 1)
    constructor
    · intro q
      obtain ⟨e, a, b, d⟩ := p.mp (by omega)
      exact ⟨c, e, a, by omega, d⟩
    · rintro ⟨_, e, a, b, d⟩
      have := p.mpr ⟨e, a, by omega, d⟩
      omega
  · rw [if_neg c, if_neg c]
    exact ⟨fun q => absurd q (by decide), fun q => absurd q.1 c⟩
set_option maxHeartbeats 1000000 in
theorem vr_cw {B : Nat × Nat} {T : Nat} {Z : jZ} {I : jI} {L : jL} {v0 u1 u2 u11 u12 u13 t37 t38 pi lp n : Nat} {ld cl : Int} {vow : Int32} {MN : Nat → Int32} {PR : Int → Int → Int → Int → Int → Int} {H G : Int → Int} (w : WD Z I) (kv : jk Z v0 12) (S : SMd B T Z I v0 u1 u2 u11 u12 u13 t37 t38 pi lp n ld cl vow MN PR H G) (bd : BUD B Z T) (v1 v2 : Int32) (e1 : v1.toInt = (pi : Int)) (hpi : pi < 6) (hc : 0 ≤ v2.toInt ∧ v2.toInt ≤ 999) (t9 t10 : Nat) (h9 : jr Z v0 9 = some t9) (K P : Int) (eK : (I t9 pi).toInt = K) (hK : 0 ≤ K ∧ K ≤ 120) (eP : (I t10 pi).toInt = P) (hlp : lp ≤ 3) (hn : n ≤ 24) (hC : ∀ p f, 0 ≤ CCp PR ld p f ∧ CCp PR ld p f ≤ 297) (hE : ∀ p f, 0 ≤ EEp H G ld p f ∧ EEp H G ld p f ≤ 600) {Q : Int32 → jZ → jI → jL → Prop}
    (hQ : ∀ (r : Int32) (Z' : jZ) (I' : jI) (L' : jL), r.toInt = CWn lp (opF vow MN cl) (CCp PR ld) (EEp H G ld) n K P v2.toInt → Q r Z' I' L') :
    (v2 ≤ I t10 pi → f_X12_layMoves B v0 v1 Z I L (fun Z80 I81 L82 => (∃ m33 : Nat, f_X12_countWays_L33 B Q m33 v0 v1 v2 (121 : Int32) (0 : Int32) Z80 I81 L82))) ∧ (¬ (v2 ≤ I t10 pi) → Q (0 : Int32) Z I L) := by
  refine ⟨fun c => ?_, fun c => ?_⟩
  · have c := (i_le rfl eP).mp c
    refine r_X12_layMoves S bd v1 e1 (fun Z2 I2 L2 w2 bd2 f2 cp2 hM => ?_)
    have kv2 := (f2.1 _ _ kv).1
    obtain ⟨x, ex, k9, -⟩ := sh_f w.1 kv (j := 9) (k := 14) (m := 6) rfl
    cases h9.symm.trans ex
    have g9 := (f2.2.1 v0 12 9 kv (by decide) (by decide)).trans h9
    have k92 := (f2.1 _ _ k9).1
    have a9 : I2 t9 = I t9 := f2.2.2.2 v0 12 9 t9 kv h9 (by rw [k9.2]; rfl) rfl (by decide)
    obtain ⟨t45, h45, k45, -⟩ := sh_f w2.1 kv2 (j := 45) (k := 14) (m := 484000) rfl
    have n37 := m12_ne w2 kv2 hM.1.1 h45 (by decide) (by decide) (by decide)
    have n38 := m12_ne w2 kv2 hM.1.2 h45 (by decide) (by decide) (by decide)
    have n9 := m12_ne w2 kv2 g9 h45 (by decide) (by decide) (by decide)
    obtain ⟨KN, hKN⟩ : ∃ KN : Nat, K = (KN : Int) := ⟨K.toNat, by omega⟩
    obtain ⟨cN, hcN⟩ : ∃ cN : Nat, v2.toInt = (cN : Int) := ⟨v2.toInt.toNat, by omega⟩
    refine ⟨KN + 2, cw_L33 v0 v1 v2 (121 : Int32) t9 t37 t38 t45 pi lp n KN cN _ _ _ hM hlp hn hC hE g9 h45 n9 n37 n38 (ks_ne k92 kv2 (by decide)) (ks_ne k45 kv2 (by decide)) e1 hpi (by rw [a9]; omega) (by omega) (by omega) hcN rfl (fun r I' L' hr _ _ => hQ r Z2 I' L' ?_) (KN + 2) 0 0 I2 L2 (by omega) (by omega) rfl (fun _ _ => rfl) (fun e d he => absurd he (Nat.not_lt_zero e))⟩
    rw [hr]
    unfold CWn
    rw [if_pos c, hcN, show K.toNat = KN by omega]
  · have c := (not_congr (i_le rfl eP)).mp c
    refine hQ 0 Z I L ?_
    unfold CWn
    rw [if_neg c]
    rfl
/-- how many climbs of pilgrim p, a step shut -/
noncomputable def CWd (D : DAT) (a : Nat → Int32) (p : Nat) (cl cost : Int) : Int := CWn (dLp D p) (opF (dVw D p) (dMn D) cl) (dCl D a (dLd D p)) (dEl D (dLd D p)) (dN D) (dKn D p) (dPu D p) cost
set_option maxHeartbeats 1000000 in
theorem RFM.cw {B : Nat × Nat} {T : Nat} {L : jL} {Z : jZ} {I : jI} {v0 t1 t2 t3 t4 t5 t6 t9 t10 t11 t12 t13 t29 t30 uX0 uX1 : Nat} {s0 s1 : Int} {D : DAT} {a : Nat → Int32} (X : RFM Z I v0 t1 t2 t3 t4 t5 t6 t9 t10 t11 t12 t13 t29 t30 uX0 uX1 s0 s1 D a) (ok : aOK a) (bd : BUD B Z T) (p : Nat) (hp : p < dP D) (v1 v2 : Int32) (e1 : v1.toInt = (p : Int)) (hc : 0 ≤ v2.toInt ∧ v2.toInt ≤ 999) {Q : Int32 → jZ → jI → jL → Prop}
    (hQ : ∀ (r : Int32) (Z' : jZ) (I' : jI) (L' : jL), RFM Z' I' v0 t1 t2 t3 t4 t5 t6 t9 t10 t11 t12 t13 t29 t30 uX0 uX1 s0 s1 D a → BUD B Z' T → FR Ws_X12_countWays Z I Z' I' → CP Z Z' → r.toInt = CWd D a p (-1) v2.toInt → Q r Z' I' L') : f_X12_countWays B v0 v1 v2 Z I L Q := by
  have w := X.w
  have kv := X.S.1
  have d := X.dok
  have p6 := d.2.1
  obtain ⟨l3, rl, rK, rP⟩ := d.2.2.2.2 p hp
  obtain ⟨t37, h37, -⟩ := sh_f w.1 kv (j := 37) (k := 14) (m := 75) rfl
  obtain ⟨t38, h38, -⟩ := sh_f w.1 kv (j := 38) (k := 14) (m := 75) rfl
  have n1 : v1.toNatClampNeg = p := by have := i_nat e1 (by omega); omega
  refine and_X12_countWays (s_X12_countWays w bd v0 v1 v2 kv t37 h37 t38 h38 (by omega) (Q := fun r Z' I' L' => WD Z' I' ∧ BUD B Z' T ∧ FR Ws_X12_countWays Z I Z' I' ∧ CP Z Z') (fun r Z' I' L' a b c d => ⟨a, b, c, d⟩)) (Q2 := fun r Z' I' L' => r.toInt = CWd D a p (-1) v2.toInt) ?_ (fun r Z' I' L' g h => hQ r Z' I' L' (X.fr g.1 g.2.2.1 (by decide) (by decide)) g.2.1 g.2.2.1 g.2.2.2 h)
  unfold f_X12_countWays
  intro I74 e74 I75 e75
  have w74 : WD Z I74 := by rw [e74]; exact WD_putF w 12 46 kv (by decide) (by decide) (by first | exact trivial | (constructor <;> decide))
  have f74 : FR Ws_X12_countWays Z I Z I74 := by rw [e74]; exact FR_putF kv (by decide) (by decide)
  have w75 : WD Z I75 := by rw [e75]; exact WD_putF w74 12 47 kv (by decide) (by decide) (by first | exact trivial | (constructor <;> decide))
  have f75 : FR Ws_X12_countWays Z I74 Z I75 := by rw [e75]; exact FR_putF kv (by decide) (by decide)
  have X5 := (X.fr w74 f74 (by decide) (by decide)).fr w75 f75 (by decide) (by decide)
  have S := X5.smd (B := B) (T := T) ok p hp t37 t38 h37 h38
  intro b hb; cases X5.h10.symm.trans hb
  rw [n1]
  exact ⟨vi_of e1 (by omega) (by omega), vr_cw w75 kv S bd v1 v2 e1 (by omega) hc t9 t10 X5.h9 (dKn D p) (dPu D p) (X5.pil p hp).1 rK (X5.pil p hp).2.1 l3 d.1 (dCl_rng ok) (dEl_rng d rl) (fun r Z' I' L' h => h)⟩
theorem RFs.fcw {cl : Int} {Z' : jZ} {I' : jI} {Z : jZ} {I : jI} {v0 t1 t2 t3 t4 t5 t6 t9 t10 t11 t12 t13 t29 t30 uX0 uX1 : Nat} {s0 s1 : Int} {D : DAT} {a : Nat → Int32} (h : RFs v0 t1 t2 t3 t4 t5 t6 t9 t10 t11 t12 t13 t29 t30 uX0 uX1 s0 s1 D a cl Z I) (w' : WD Z' I') (f' : FR Ws_X12_countWays Z I Z' I') : RFs v0 t1 t2 t3 t4 t5 t6 t9 t10 t11 t12 t13 t29 t30 uX0 uX1 s0 s1 D a cl Z' I' := by
  obtain ⟨I0, X, w, f, e39⟩ := h
  have kv := X.S.1
  have kv' := (f'.1 _ _ kv).1
  have w0 : WD Z' (jpI I' v0 39 (-1)) := WD_putF w' 12 39 kv' (by decide) (by decide) (by constructor <;> decide)
  have f0 : FR [(12, 39)] Z' I' Z' (jpI I' v0 39 (-1)) := FR_putF kv' (by decide) List.mem_cons_self
  have k3 := (STm_k X.w X.S).2.2.1
  have F : FR ((12, 39) :: Ws_X12_countWays) Z I0 Z' (jpI I' v0 39 (-1)) := ((f.mono (by decide)).trans X.w.1 X.w.2.1 (f'.mono (by decide))).trans X.w.1 X.w.2.1 (f0.mono (by decide))
  have a3 : jpI I' v0 39 (-1) t3 = I0 t3 := F.2.2.2 v0 12 3 t3 kv X.S.2.2.2.1 (by rw [k3.2]; rfl) rfl (by decide)
  refine ⟨jpI I' v0 39 (-1), X.fraZ w0 F (by decide) (by rw [a3]; exact X.ha) (by rw [jpI_at]; decide), w', ?_, ?_⟩
  · have g : FR [(12, 39)] Z' (jpI I' v0 39 (-1)) Z' (jpI (jpI I' v0 39 (-1)) v0 39 (I' v0 39)) := FR_putF kv' (by decide) List.mem_cons_self
    rw [jpI_back rfl] at g
    exact g
  · rw [f'.2.2.1 v0 12 39 kv (by decide) (by decide)]; exact e39
set_option maxHeartbeats 1000000 in
theorem RFs.cw {B : Nat × Nat} {T : Nat} {L : jL} {cl : Int} {Z : jZ} {I : jI} {v0 t1 t2 t3 t4 t5 t6 t9 t10 t11 t12 t13 t29 t30 uX0 uX1 : Nat} {s0 s1 : Int} {D : DAT} {a : Nat → Int32} (Y : RFs v0 t1 t2 t3 t4 t5 t6 t9 t10 t11 t12 t13 t29 t30 uX0 uX1 s0 s1 D a cl Z I) (ok : aOK a) (bd : BUD B Z T) (p : Nat) (hp : p < dP D) (v1 v2 : Int32) (e1 : v1.toInt = (p : Int)) (hc : 0 ≤ v2.toInt ∧ v2.toInt ≤ 999) {Q : Int32 → jZ → jI → jL → Prop}
    (hQ : ∀ (r : Int32) (Z' : jZ) (I' : jI) (L' : jL), WD Z' I' → BUD B Z' T → FR Ws_X12_countWays Z I Z' I' → CP Z Z' → r.toInt = CWd D a p cl v2.toInt → Q r Z' I' L') : f_X12_countWays B v0 v1 v2 Z I L Q := by
  have Y9 := Y
  obtain ⟨I0, X, w, f, e39⟩ := Y9
  have kv := X.S.1
  have d := X.dok
  have p6 := d.2.1
  obtain ⟨l3, rl, rK, rP⟩ := d.2.2.2.2 p hp
  obtain ⟨t37, h37, -⟩ := sh_f w.1 kv (j := 37) (k := 14) (m := 75) rfl
  obtain ⟨t38, h38, -⟩ := sh_f w.1 kv (j := 38) (k := 14) (m := 75) rfl
  have n1 : v1.toNatClampNeg = p := by have := i_nat e1 (by omega); omega
  refine and_X12_countWays (s_X12_countWays w bd v0 v1 v2 kv t37 h37 t38 h38 (by omega) (Q := fun r Z' I' L' => WD Z' I' ∧ BUD B Z' T ∧ FR Ws_X12_countWays Z I Z' I' ∧ CP Z Z') (fun r Z' I' L' a b c d => ⟨a, b, c, d⟩)) (Q2 := fun r Z' I' L' => r.toInt = CWd D a p cl v2.toInt) ?_ (fun r Z' I' L' g h => hQ r Z' I' L' g.1 g.2.1 g.2.2.1 g.2.2.2 h)
  unfold f_X12_countWays
  intro I74 e74 I75 e75
  have w74 : WD Z I74 := by rw [e74]; exact WD_putF w 12 46 kv (by decide) (by decide) (by first | exact trivial | (constructor <;> decide))
  have f74 : FR Ws_X12_countWays Z I Z I74 := by rw [e74]; exact FR_putF kv (by decide) (by decide)
  have w75 : WD Z I75 := by rw [e75]; exact WD_putF w74 12 47 kv (by decide) (by decide) (by first | exact trivial | (constructor <;> decide))
  have f75 : FR Ws_X12_countWays Z I74 Z I75 := by rw [e75]; exact FR_putF kv (by decide) (by decide)
  obtain ⟨S, e9, e10⟩ := RFs.smd (B := B) (T := T) (RFs.fcw (RFs.fcw Y w74 f74) w75 f75) ok p hp t37 t38 h37 h38
  intro b hb; cases X.h10.symm.trans hb
  rw [n1]
  exact ⟨vi_of e1 (by omega) (by omega), vr_cw w75 kv S bd v1 v2 e1 (by omega) hc t9 t10 X.h9 (dKn D p) (dPu D p) e9 rK e10 l3 d.1 (dCl_rng ok) (dEl_rng d rl) (fun r Z' I' L' h => h)⟩
theorem opF_shut {vow : Int32} {MN : Nat → Int32} {s t : Nat} (h : t = s + 1) (p : Nat) : opF vow MN (s : Int) p ↔ opF vow MN (-1) p ∧ p ≠ t := by
  unfold opF
  constructor
  · rintro (h0 | ⟨h1, h2, h3⟩)
    · exact ⟨Or.inl h0, by omega⟩
    · exact ⟨Or.inr ⟨h1, by omega, h3⟩, by omega⟩
  · rintro ⟨h0 | ⟨h1, h2, h3⟩, h4⟩
    · exact Or.inl h0
    · exact Or.inr ⟨h1, by omega, h3⟩
set_option maxHeartbeats 1000000 in
theorem RFM.ct {B : Nat × Nat} {T : Nat} {L : jL} {Z : jZ} {I : jI} {v0 t1 t2 t3 t4 t5 t6 t9 t10 t11 t12 t13 t29 t30 uX0 uX1 : Nat} {s0 s1 : Int} {D : DAT} {a : Nat → Int32} (X : RFM Z I v0 t1 t2 t3 t4 t5 t6 t9 t10 t11 t12 t13 t29 t30 uX0 uX1 s0 s1 D a) (ok : aOK a) (bd : BUD B Z T) (p : Nat) (hp : p < dP D) (v1 v2 v3 : Int32) (e1 : v1.toInt = (p : Int)) (hc : 0 ≤ v2.toInt ∧ v2.toInt ≤ 999) (h3 : 0 ≤ v3.toInt ∧ v3.toInt < (dN D : Int)) {Q : Int32 → jZ → jI → jL → Prop}
    (hQ : ∀ (r : Int32) (Z' : jZ) (I' : jI) (L' : jL), RFM Z' I' v0 t1 t2 t3 t4 t5 t6 t9 t10 t11 t12 t13 t29 t30 uX0 uX1 s0 s1 D a → BUD B Z' T → FR Ws_X12_countTreading Z I Z' I' → CP Z Z' → (0 < r.toInt ↔ TLp D a p v3.toInt v2.toInt) → Q r Z' I' L') : f_X12_countTreading B v0 v1 v2 v3 Z I L Q := by
  have w := X.w
  have kv := X.S.1
  have d := X.dok
  have n24 := d.1
  obtain ⟨l3, rl, rK, rP⟩ := d.2.2.2.2 p hp
  unfold f_X12_countTreading
  refine X.cw ok bd p hp v1 v2 e1 hc (fun r7 Z2 I2 L2 X2 bd2 f2 cp2 h7 => ?_)
  have kv2 := X2.S.1
  intro I9 e9
  have w9 : WD Z2 I9 := by rw [e9]; exact WD_putF X2.w 12 39 kv2 (by decide) (by decide) (by constructor <;> omega)
  have f9 : FR [(12, 39)] Z2 I2 Z2 I9 := by rw [e9]; exact FR_putF kv2 (by decide) List.mem_cons_self
  have Y9 : RFs v0 t1 t2 t3 t4 t5 t6 t9 t10 t11 t12 t13 t29 t30 uX0 uX1 s0 s1 D a v3.toInt Z2 I9 := ⟨I2, X2, w9, f9, by rw [e9, jpI_at]⟩
  refine RFs.cw Y9 ok bd2 p hp v1 v2 e1 hc (fun r16 Z3 I3 L3 w3 bd3 f3 cp3 h16 => ?_)
  have kv3 := (f3.1 _ _ kv2).1
  intro I18 e18
  have w18 : WD Z3 I18 := by rw [e18]; exact WD_putF w3 12 39 kv3 (by decide) (by decide) (by constructor <;> decide)
  have f18 : FR [(12, 39)] Z3 I3 Z3 I18 := by rw [e18]; exact FR_putF kv3 (by decide) List.mem_cons_self
  have F : FR ((12, 39) :: Ws_X12_countWays) Z2 I2 Z3 I18 := ((f9.mono (by decide)).trans X2.w.1 X2.w.2.1 (f3.mono (by decide))).trans X2.w.1 X2.w.2.1 (f18.mono (by decide))
  have k3 := (STm_k X2.w X2.S).2.2.1
  have a3 : I18 t3 = I2 t3 := F.2.2.2 v0 12 3 t3 kv2 X2.S.2.2.2.1 (by rw [k3.2]; rfl) rfl (by decide)
  have X5 := X2.fraZ w18 F (by decide) (by rw [a3]; exact X2.ha) (by rw [e18, jpI_at]; decide)
  refine hQ (r7 - r16) Z3 I18 L3 X5 bd3 ((f2.mono (by decide)).trans w.1 w.2.1 (F.mono (by decide))) (CP.trans f2.1 cp2 cp3) ?_
  obtain ⟨s, es⟩ : ∃ s : Nat, v3.toInt = (s : Int) := ⟨v3.toInt.toNat, by omega⟩
  have b7 := CWn_rng (lp := dLp D p) (op := opF (dVw D p) (dMn D) (-1)) (C := dCl D a (dLd D p)) (E := dEl D (dLd D p)) (P := dPu D p) (cost := v2.toInt) n24 rK.2
  have b16 := CWn_rng (lp := dLp D p) (op := opF (dVw D p) (dMn D) v3.toInt) (C := dCl D a (dLd D p)) (E := dEl D (dLd D p)) (P := dPu D p) (cost := v2.toInt) n24 rK.2
  unfold CWd at h7 h16
  rw [i_sub h7 h16 (by omega) (by omega), es]
  have t := CWn_sub (lp := dLp D p) (C := dCl D a (dLd D p)) (E := dEl D (dLd D p)) (K := dKn D p) (P := dPu D p) (cost := v2.toInt) (opF_shut (vow := dVw D p) (MN := dMn D) (rfl : s + 1 = s + 1)) (by omega) (by omega : s + 1 ≤ dN D) n24 rK.1
  rw [show (((s + 1 : Nat) : Int) - 1) = (s : Int) by omega] at t
  exact t
set_option maxHeartbeats 1000000 in
theorem r_X12_trod {B : Nat × Nat} {T : Nat} {L : jL} {Z : jZ} {I : jI} {v0 t1 t2 t3 t4 t5 t6 t9 t10 t11 t12 t13 t29 t30 uX0 uX1 : Nat} {s0 s1 : Int} {D : DAT} {a : Nat → Int32} (X : RFM Z I v0 t1 t2 t3 t4 t5 t6 t9 t10 t11 t12 t13 t29 t30 uX0 uX1 s0 s1 D a) (ok : aOK a) (bd : BUD B Z T) (v1 v2 v3 : Int32) {Q : Int32 → jZ → jI → jL → Prop}
    (hQ : ∀ (r : Int32) (Z' : jZ) (I' : jI) (L' : jL), TDd D a v1 v2 v3 r.toInt → RFM Z' I' v0 t1 t2 t3 t4 t5 t6 t9 t10 t11 t12 t13 t29 t30 uX0 uX1 s0 s1 D a → BUD B Z' T → FR Ws_X12_trod Z I Z' I' → CP Z Z' → Q r Z' I' L') : f_X12_trod B v0 v1 v2 v3 Z I L Q := by
  have z0 : (0 : Int32).toInt = 0 := rfl
  have w := X.w
  have kv := X.S.1
  have d := X.dok
  have p6 := d.2.1
  have n24 := d.1
  unfold f_X12_trod
  intro I1 e1
  have w1 : WD Z I1 := by rw [e1]; exact WD_putF w 12 22 kv (by decide) (by decide) trivial
  have f1 : FR [(12, 22)] Z I Z I1 := by rw [e1]; exact FR_putF kv (by decide) List.mem_cons_self
  have X1 := X.fr w1 f1 (by decide) (by decide)
  have hp8 := X1.hp
  have hn0 := X1.hn
  have bad : ¬ TDin D v1 v2 v3 → Q (-1 : Int32) Z I1 L := fun n => hQ _ Z I1 L (Or.inl ⟨n, rfl⟩) X1 bd (f1.mono (by decide)) CP.rf
  refine s_X12_isOne w1 v0 v1 kv (fun r hr => ⟨fun c => bad (fun q => ?_), fun c => ?_⟩)
  · have c := (i_eq rfl z0).mp c
    have := q.1
    omega
  have c := (not_congr (i_eq rfl z0)).mp c
  refine s_X12_isCost w1 v2 (fun r2 hr2 => ⟨fun c2 => bad (fun q => ?_), fun c2 => ?_⟩)
  · have c2 := (i_eq rfl z0).mp c2
    have := q.2.1
    omega
  have c2 := (not_congr (i_eq rfl z0)).mp c2
  refine s_X12_isStep w1 v0 v3 kv (fun r3 hr3 => ⟨fun c3 => ?_, fun c3 => bad (fun q => ?_)⟩)
  · have c3 := (not_congr (i_eq rfl z0)).mp c3
    obtain ⟨p, ev⟩ : ∃ p : Nat, v1.toInt = (p : Int) := ⟨v1.toInt.toNat, by omega⟩
    have hp : p < dP D := by omega
    have ep : v1.toInt.toNat = p := by omega
    obtain ⟨l3, rl, rK, rP⟩ := d.2.2.2.2 p hp
    have hin : TDin D v1 v2 v3 := ⟨by omega, by omega, by omega⟩
    refine X1.ct ok bd p hp v1 v2 v3 ev hin.2.1 hin.2.2 (fun r32 Z2 I2 L2 X2 bd2 f2 cp2 _ => ?_)
    refine X2.cw ok bd2 p hp v1 v2 ev hin.2.1 (fun r40 Z3 I3 L3 X3 bd3 f3 cp3 h40 => ?_)
    have f13 : FR Ws_X12_trod Z I Z3 I3 := ((f1.mono (by decide)).trans w.1 w.2.1 (f2.mono (by decide))).trans w.1 w.2.1 (f3.mono (by decide))
    have cp13 := CP.trans f2.1 cp2 cp3
    have tl : 0 < r40.toInt ↔ TLp D a p (-1) v2.toInt := by
      unfold TLp
      rw [h40, Mm_all]
      exact CWn_pos n24 rK.1
    have nn : 0 ≤ r40.toInt := by
      rw [h40]
      exact (CWn_rng n24 rK.2).1
    refine ⟨fun c4 => ?_, fun c4 => ?_⟩
    · have c5 := (not_congr (i_eq rfl z0)).mp c4
      intro I43 e43
      have kv3 := X3.S.1
      have w43 : WD Z3 I43 := by rw [e43]; exact WD_putF X3.w 12 21 kv3 (by decide) (by decide) (by first | exact trivial | (constructor <;> decide))
      have f43 : FR [(12, 21)] Z3 I3 Z3 I43 := by rw [e43]; exact FR_putF kv3 (by decide) List.mem_cons_self
      refine s_X12_tellPart w43 v0 _ _ kv3 (fun q => c4 ?_) (by rw [e43, jpI_at]; decide) (fun I5 L5 w5 f5 => ?_)
      · have q := congrArg Int64.toInt q
        rw [Int32.toInt_toInt64] at q
        exact (i_eq rfl z0).mpr q
      · have f15 : FR Ws_X12_trod Z I Z3 I5 := (f13.trans w.1 w.2.1 (f43.mono (by decide))).trans w.1 w.2.1 (f5.mono (by decide))
        exact hQ _ Z3 I5 L5 (Or.inr ⟨hin, Or.inr ⟨by rw [ep]; exact tl.mp (by omega), rfl⟩⟩) ((X3.fr w43 f43 (by decide) (by decide)).fr w5 f5 (by decide) (by decide)) bd3 f15 cp13
    · have c5 := (i_eq rfl z0).mp c4
      exact hQ _ Z3 I3 L3 (Or.inr ⟨hin, Or.inl ⟨by rw [ep]; exact fun q => by have := tl.mpr q; omega, rfl⟩⟩) X3 bd3 f13 cp13
  · have c3 := (i_eq rfl z0).mp c3
    have := q.2.2
    omega
theorem wh_L27 {B : Nat × Nat} {T : Nat} {Z : jZ} {I : jI} {v0 t1 t2 t3 t4 t5 t6 t9 t10 t11 t12 t13 t29 t30 uX0 uX1 : Nat} {s0 s1 : Int} {D : DAT} {a : Nat → Int32} (X : RFM Z I v0 t1 t2 t3 t4 t5 t6 t9 t10 t11 t12 t13 t29 t30 uX0 uX1 s0 s1 D a) (ok : aOK a) (v1 v2 : Int32) (h1 : 0 ≤ v1.toInt ∧ v1.toInt ≤ 999) (h2 : 0 ≤ v2.toInt ∧ v2.toInt < (dN D : Int)) {Q : Int32 → jZ → jI → jL → Prop}
    (hQ : ∀ (Z' : jZ) (I' : jI) (L' : jL), RFM Z' I' v0 t1 t2 t3 t4 t5 t6 t9 t10 t11 t12 t13 t29 t30 uX0 uX1 s0 s1 D a → BUD B Z' T → FR Ws_X12_who Z I Z' I' → CP Z Z' → Q (whB D a v1.toInt v2.toInt (dP D)) Z' I' L') :
    ∀ (k p : Nat) (v3 v4 : Int32) (Z1 : jZ) (I1 : jI) (L1 : jL), 8 ≤ k + p → p ≤ dP D → v4.toInt = (p : Int) → v3 = whB D a v1.toInt v2.toInt p → RFM Z1 I1 v0 t1 t2 t3 t4 t5 t6 t9 t10 t11 t12 t13 t29 t30 uX0 uX1 s0 s1 D a → BUD B Z1 T → FR Ws_X12_who Z I Z1 I1 → CP Z Z1 → f_X12_who_L27 B Q k v0 v1 v2 v3 v4 Z1 I1 L1 := by
  have z0 : (0 : Int32).toInt = 0 := rfl
  have z1 : (1 : Int32).toInt = 1 := rfl
  have w := X.w
  have p6 := X.dok.2.1
  intro k
  induction k with
  | zero => intro p v3 v4 Z1 I1 L1 hk; omega
  | succ k ih =>
    intro p v3 v4 Z1 I1 L1 hk hp e4 e3 X1 bd f cp
    unfold f_X12_who_L27
    refine ⟨fun c => ?_, fun c => ?_⟩
    · have c := (i_le X1.hp e4).mp c
      have ep : p = dP D := by omega
      rw [e3, ep]
      exact hQ Z1 I1 L1 X1 bd f cp
    have c := (not_congr (i_le X1.hp e4)).mp c
    refine X1.ct ok bd p (by omega) v4 v1 v2 e4 h1 h2 (fun r Z2 I2 L2 X2 bd2 f2 cp2 hT => ?_)
    have nx : ∀ s : Int32, v3 ||| s = whB D a v1.toInt v2.toInt (p + 1) → f_X12_who_b56 B (f_X12_who_L27 B Q k) Q v0 v1 v2 v4 v3 s Z2 I2 L2 := fun s hs => by
      unfold f_X12_who_b56
      intro x1 ex1 x2 ex2
      exact ih (p + 1) x1 x2 Z2 I2 L2 (by omega) (by omega) (by rw [ex2]; exact (i_add e4 z1 (by omega) (by omega)).trans (by omega)) (ex1.trans hs) X2 bd2 (f.trans w.1 w.2.1 (f2.mono (by decide))) (CP.trans f.1 cp cp2)
    refine ⟨fun c9 => nx 0 ?_, fun c9 => nx _ ?_⟩
    · have c9 := (i_le rfl z0).mp c9
      rw [e3]
      exact whB_n (fun t => by have := hT.mpr t; omega)
    · have c9 := (not_congr (i_le rfl z0)).mp c9
      rw [e3]
      exact whB_y e4 (hT.mp (by omega))
theorem r_X12_who {B : Nat × Nat} {T : Nat} {L : jL} {Z : jZ} {I : jI} {v0 t1 t2 t3 t4 t5 t6 t9 t10 t11 t12 t13 t29 t30 uX0 uX1 : Nat} {s0 s1 : Int} {D : DAT} {a : Nat → Int32} (X : RFM Z I v0 t1 t2 t3 t4 t5 t6 t9 t10 t11 t12 t13 t29 t30 uX0 uX1 s0 s1 D a) (ok : aOK a) (bd : BUD B Z T) (v1 v2 : Int32) {Q : Int32 → jZ → jI → jL → Prop}
    (hQ : ∀ (r : Int32) (Z' : jZ) (I' : jI) (L' : jL), WTd D a v1 v2 r → RFM Z' I' v0 t1 t2 t3 t4 t5 t6 t9 t10 t11 t12 t13 t29 t30 uX0 uX1 s0 s1 D a → BUD B Z' T → FR Ws_X12_who Z I Z' I' → CP Z Z' → Q r Z' I' L') : f_X12_who B v0 v1 v2 Z I L Q := by
  have z0 : (0 : Int32).toInt = 0 := rfl
  have w := X.w
  have kv := X.S.1
  have d := X.dok
  have n24 := d.1
  unfold f_X12_who
  intro I1 e1
  have w1 : WD Z I1 := by rw [e1]; exact WD_putF w 12 22 kv (by decide) (by decide) trivial
  have f1 : FR [(12, 22)] Z I Z I1 := by rw [e1]; exact FR_putF kv (by decide) List.mem_cons_self
  have X1 := X.fr w1 f1 (by decide) (by decide)
  have hn0 := X1.hn
  have bad : ¬ WTin D v1 v2 → Q (-1 : Int32) Z I1 L := fun n => hQ _ Z I1 L (Or.inl ⟨n, rfl⟩) X1 bd (f1.mono (by decide)) CP.rf
  refine s_X12_isCost w1 v1 (fun r2 hr2 => ⟨fun c2 => bad (fun q => ?_), fun c2 => ?_⟩)
  · have c2 := (i_eq rfl z0).mp c2
    have := q.1
    omega
  have c2 := (not_congr (i_eq rfl z0)).mp c2
  refine s_X12_isStep w1 v0 v2 kv (fun r3 hr3 => ⟨fun c3 => ?_, fun c3 => bad (fun q => ?_)⟩)
  · have c3 := (not_congr (i_eq rfl z0)).mp c3
    have hin : WTin D v1 v2 := ⟨by omega, by omega⟩
    exact ⟨8, wh_L27 X1 ok v1 v2 hin.1 hin.2 (fun Z' I' L' X' bd' f' cp' => hQ _ Z' I' L' (Or.inr ⟨hin, rfl⟩) X' bd' ((f1.mono (by decide)).trans w.1 w.2.1 f') cp') 8 0 0 0 Z I1 L (by omega) (by omega) rfl rfl X1 bd FR.rf CP.rf⟩
  · have c3 := (i_eq rfl z0).mp c3
    have := q.2
    omega
/-! ===== trod, who: both sides ===== -/
/-- trod: the class's call, and what it promises of the reference's -/
theorem SAM_trod1 {B : Nat × Nat} {T : Nat} {L : jL} {Z : jZ} {I : jI} {v1 v2 uF uR uX uA uW uP x0 x1 u5c uFe uT uL0 uC0 uL1 uC1 uV p13 p14 : Nat} {vR vX vA vW v5 t6 t9 t10 t11 t12 t13 t29 t30 q0 q1 : Nat} (X : SAM Z I v1 v2 uF uR uX uA uW uP x0 x1 u5c uFe uT uL0 uC0 uL1 uC1 uV p13 p14 vR vX vA vW v5 t6 t9 t10 t11 t12 t13 t29 t30 q0 q1) (bd : BUD B Z T) (a b c : Int32) {Q : Int32 → jZ → jI → jL → Prop}
    (hQ : ∀ (r1 : Int32) (Z1 : jZ) (I1 : jI) (L1 : jL), WD Z1 I1 → BUD B Z1 T → FR Wcm Z I Z1 I1 → CP Z Z1 → (∀ (L : jL) (Q2 : Int32 → jZ → jI → jL → Prop), (∀ (r2 : Int32) (Z2 : jZ) (I2 : jI) (L2 : jL), r1.toInt = r2.toInt → WD Z2 I2 → BUD B Z2 T → FR Ws_X12_trod Z1 I1 Z2 I2 → CP Z1 Z2 → ((I2 v2 39).toInt = -1) → Q2 r2 Z2 I2 L2) → f_X12_trod B v2 a b c Z1 I1 L Q2) → Q r1 Z1 I1 L1) : f_X11_trod B v1 a b c Z I L Q := by
  have d := X.rfm.dok
  have ok := X.ok
  refine r_X11_trod X.cwd bd a b c (fun r1 Z1 I1 L1 hm w1 bd1 f1 cp1 => hQ r1 Z1 I1 L1 w1 bd1 f1 cp1 (fun L Q2 h2 => ?_))
  have Y1 := X.rfm.fr w1 f1 (by decide) (by decide)
  refine r_X12_trod Y1 ok bd1 a b c (fun r2 Z2 I2 L2 hm2 Y2 bd2 f2 cp2 => h2 r2 Z2 I2 L2 (TDd_fun hm hm2) Y2.w bd2 f2 cp2 (Y2.sh))
/-- who: the class's call, and what it promises of the reference's -/
theorem SAM_who1 {B : Nat × Nat} {T : Nat} {L : jL} {Z : jZ} {I : jI} {v1 v2 uF uR uX uA uW uP x0 x1 u5c uFe uT uL0 uC0 uL1 uC1 uV p13 p14 : Nat} {vR vX vA vW v5 t6 t9 t10 t11 t12 t13 t29 t30 q0 q1 : Nat} (X : SAM Z I v1 v2 uF uR uX uA uW uP x0 x1 u5c uFe uT uL0 uC0 uL1 uC1 uV p13 p14 vR vX vA vW v5 t6 t9 t10 t11 t12 t13 t29 t30 q0 q1) (bd : BUD B Z T) (a b : Int32) {Q : Int32 → jZ → jI → jL → Prop}
    (hQ : ∀ (r1 : Int32) (Z1 : jZ) (I1 : jI) (L1 : jL), WD Z1 I1 → BUD B Z1 T → FR Wcm Z I Z1 I1 → CP Z Z1 → (∀ (L : jL) (Q2 : Int32 → jZ → jI → jL → Prop), (∀ (r2 : Int32) (Z2 : jZ) (I2 : jI) (L2 : jL), r1.toInt = r2.toInt → WD Z2 I2 → BUD B Z2 T → FR Ws_X12_who Z1 I1 Z2 I2 → CP Z1 Z2 → ((I2 v2 39).toInt = -1) → Q2 r2 Z2 I2 L2) → f_X12_who B v2 a b Z1 I1 L Q2) → Q r1 Z1 I1 L1) : f_X11_who B v1 a b Z I L Q := by
  have d := X.rfm.dok
  have ok := X.ok
  refine r_X11_who X.cwd bd a b (fun r1 Z1 I1 L1 hm w1 bd1 f1 cp1 => hQ r1 Z1 I1 L1 w1 bd1 f1 cp1 (fun L Q2 h2 => ?_))
  have Y1 := X.rfm.fr w1 f1 (by decide) (by decide)
  refine r_X12_who Y1 ok bd1 a b (fun r2 Z2 I2 L2 hm2 Y2 bd2 f2 cp2 => h2 r2 Z2 I2 L2 (WTd_fun hm hm2) Y2.w bd2 f2 cp2 (Y2.sh))
