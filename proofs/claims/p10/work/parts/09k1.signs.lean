/-! ===== the text's signs, and what a line of THE STAIRS says ===== -/
theorem i_and255 {x : Int32} : (x &&& (255 : Int32)).toInt = x.toInt % 256 := by
  have e : (x &&& (255 : Int32)).toBitVec = x.toBitVec &&& (255 : Int32).toBitVec := rfl
  have hn : (x &&& (255 : Int32)).toBitVec.toNat = x.toBitVec.toNat % 256 := by
    rw [e, BitVec.toNat_and]
    exact Nat.and_two_pow_sub_one_eq_mod _ 8
  have h1 : (x &&& (255 : Int32)).toInt = (x &&& (255 : Int32)).toBitVec.toInt := rfl
  have h2 : x.toInt = x.toBitVec.toInt := rfl
  have hl := x.toBitVec.isLt
  rw [h1, h2, BitVec.toInt_eq_toNat_cond, BitVec.toInt_eq_toNat_cond, hn]
  split <;> split <;> omega
/-- bytes -/
def BY (f : Nat → Int32) : Prop := ∀ i, -128 ≤ (f i).toInt ∧ (f i).toInt ≤ 127
theorem nar_byte (x : Int32) : -128 ≤ (vp_nar .byte x).toInt ∧ (vp_nar .byte x).toInt ≤ 127 := by
  have e : vp_nar .byte x = x.toInt8.toInt32 := rfl
  have h1 := Int8.le_toInt x.toInt8
  have h2 := Int8.toInt_lt x.toInt8
  rw [e, Int8.toInt_toInt32]
  omega
/-- the sign of v that is appended with shift m -/
def byt (v : Int32) (m : Nat) : Int32 := vp_nar .byte ((v >>> (nI m &&& 31)).toInt8.toInt32)
/-- k signs of v appended at s -/
def apk (f : Nat → Int32) (s : Nat) (v : Int32) (k : Nat) : Nat → Int32 := fun j => if s ≤ j ∧ j < s + k then byt v (24 - 8 * (j - s)) else f j
theorem apk_0 {f : Nat → Int32} {s : Nat} {v : Int32} : apk f s v 0 = f := funext fun j => if_neg (by omega)
theorem apk_step {I : jI} {b s k : Nat} {f : Nat → Int32} {v x : Int32} (h : I b = apk f s v k) (hk : k < 4) (hx : x.toInt = 24 - 8 * (k : Int)) : jpI I b (s + k) (vp_nar .byte ((v >>> (x &&& 31)).toInt8.toInt32)) b = apk f s v (k + 1) := by
  have e : x = nI (24 - 8 * k) := (i_eq hx (i_nI (by omega))).mpr (by omega)
  subst e
  funext j
  show va_up I b (upd (I b) (s + k) (byt v (24 - 8 * k))) b j = _
  rw [va_up_self, h]
  by_cases c : j = s + k
  · subst c
    rw [show upd (apk f s v k) (s + k) (byt v (24 - 8 * k)) (s + k) = byt v (24 - 8 * k) from if_pos rfl]
    unfold apk
    rw [if_pos (by omega), show s + k - s = k by omega]
  · rw [show upd (apk f s v k) (s + k) (byt v (24 - 8 * k)) j = apk f s v k j from if_neg c]
    unfold apk
    by_cases d : s ≤ j ∧ j < s + k
    · rw [if_pos d, if_pos (by omega)]
    · rw [if_neg d, if_neg (by omega)]
theorem apk_BY {f : Nat → Int32} {s k : Nat} {v : Int32} (h : BY f) : BY (apk f s v k) := fun i => by
  unfold apk
  split
  · exact nar_byte _
  · exact h i
/-- the sign at a place; -1 behind the end -/
def GS (f : Nat → Int32) (lim a : Int) : Int := if 0 ≤ a ∧ a < lim then (f a.toNat).toInt else -1
/-- what the class sees of it -/
def CLk (x r : Int) : Prop := (0 ≤ x → r = x) ∧ (x < 0 → r = -1 ∨ 128 ≤ r)
theorem CLk_in {f : Nat → Int32} {lim : Int} {x : Int32} (hb : BY f) (h0 : 0 ≤ x.toInt) (h1 : x.toInt < lim) : CLk (GS f lim x.toInt) ((f x.toNatClampNeg) &&& (255 : Int32)).toInt := by
  unfold GS
  rw [if_pos ⟨h0, h1⟩, i_and255, show x.toInt.toNat = x.toNatClampNeg from rfl]
  have := hb x.toNatClampNeg
  unfold CLk
  omega
theorem CLk_out {f : Nat → Int32} {lim a : Int} (h1 : lim ≤ a) : CLk (GS f lim a) (-1) := by
  unfold GS
  rw [if_neg (by omega)]
  unfold CLk
  omega
theorem GS_in {f : Nat → Int32} {lim : Int} {x : Int32} (h0 : 0 ≤ x.toInt) (h1 : x.toInt < lim) : (f x.toNatClampNeg).toInt = GS f lim x.toInt := by
  unfold GS
  rw [if_pos ⟨h0, h1⟩]
  rfl
theorem GS_out {f : Nat → Int32} {lim a : Int} (h1 : lim ≤ a) : GS f lim a = -1 := by
  unfold GS
  rw [if_neg (by omega)]
theorem GS_rng {f : Nat → Int32} {lim a : Int} (hb : BY f) : -128 ≤ GS f lim a ∧ GS f lim a ≤ 127 := by
  unfold GS
  have := hb a.toNat
  split <;> omega
theorem GS_cong {f g : Nat → Int32} {s lim : Int} (hs : lim ≤ s) (h : ∀ i : Nat, (i : Int) < s → f i = g i) : GS f lim = GS g lim := by
  funext a
  unfold GS
  by_cases c : 0 ≤ a ∧ a < lim
  · rw [if_pos c, if_pos c, h a.toNat (by omega)]
  · rw [if_neg c, if_neg c]
/-- how many digits a number of one or two has; what it is -/
def nd (g : Int → Int) (a : Int) : Int := if 48 ≤ g a ∧ g a ≤ 57 then (if 48 ≤ g (a + 1) ∧ g (a + 1) ≤ 57 then 2 else 1) else 0
def nv (g : Int → Int) (a : Int) : Int := if 48 ≤ g a ∧ g a ≤ 57 then (if 48 ≤ g (a + 1) ∧ g (a + 1) ≤ 57 then 10 * (g a - 48) + (g (a + 1) - 48) else g a - 48) else 0
theorem nd_cases (g : Int → Int) (a : Int) : (nd g a = 0 ∧ nv g a = 0 ∧ ¬ (48 ≤ g a ∧ g a ≤ 57)) ∨ (nd g a = 1 ∧ nv g a = g a - 48 ∧ (48 ≤ g a ∧ g a ≤ 57) ∧ ¬ (48 ≤ g (a + 1) ∧ g (a + 1) ≤ 57)) ∨ (nd g a = 2 ∧ nv g a = 10 * (g a - 48) + (g (a + 1) - 48) ∧ (48 ≤ g a ∧ g a ≤ 57) ∧ (48 ≤ g (a + 1) ∧ g (a + 1) ≤ 57)) := by
  unfold nd nv
  by_cases c : 48 ≤ g a ∧ g a ≤ 57
  · by_cases d : 48 ≤ g (a + 1) ∧ g (a + 1) ≤ 57
    · rw [if_pos c, if_pos c, if_pos d, if_pos d]; exact Or.inr (Or.inr ⟨rfl, rfl, c, d⟩)
    · rw [if_pos c, if_pos c, if_neg d, if_neg d]; exact Or.inr (Or.inl ⟨rfl, rfl, c, d⟩)
  · rw [if_neg c, if_neg c]; exact Or.inl ⟨rfl, rfl, c⟩
/-- while a number is read: d digits from a on, worth v, the place at hand p -/
def NI (g : Int → Int) (a d v p : Int) : Prop := p = a + d ∧ ((d = 0 ∧ v = 0) ∨ (d = 1 ∧ v = g a - 48 ∧ 48 ≤ g a ∧ g a ≤ 57) ∨ (d = 2 ∧ v = 10 * (g a - 48) + (g (a + 1) - 48) ∧ 48 ≤ g a ∧ g a ≤ 57 ∧ 48 ≤ g (a + 1) ∧ g (a + 1) ≤ 57))
theorem NI_0 {g : Int → Int} {a : Int} : NI g a 0 0 a := ⟨by omega, Or.inl ⟨rfl, rfl⟩⟩
theorem NI_step {g : Int → Int} {a d v p d' v' p' : Int} (h : NI g a d v p) (hd : d < 2) (hp : 48 ≤ g p ∧ g p ≤ 57) (e1 : d' = d + 1) (e2 : v' = v * 10 + g p - 48) (e3 : p' = p + 1) : NI g a d' v' p' := by
  obtain ⟨rfl, h | h | h⟩ := h
  · obtain ⟨rfl, rfl⟩ := h
    rw [show a + 0 = a by omega] at hp e2 e3
    exact ⟨by omega, Or.inr (Or.inl ⟨by omega, by omega, hp.1, hp.2⟩)⟩
  · obtain ⟨rfl, rfl, h1, h2⟩ := h
    exact ⟨by omega, Or.inr (Or.inr ⟨by omega, by omega, h1, h2, hp.1, hp.2⟩)⟩
  · omega
theorem NI_end {g : Int → Int} {a d v p : Int} (h : NI g a d v p) (he : 2 ≤ d ∨ ¬ (48 ≤ g p ∧ g p ≤ 57)) : nd g a = d ∧ nv g a = v ∧ p = a + d := by
  obtain ⟨rfl, h | h | h⟩ := h
  · obtain ⟨rfl, rfl⟩ := h
    have he := he.resolve_left (by omega)
    rw [show a + 0 = a by omega] at he
    rcases nd_cases g a with c | c | c
    · exact ⟨c.1, c.2.1, rfl⟩
    · exact absurd c.2.2.1 he
    · exact absurd c.2.2.1 he
  · obtain ⟨rfl, rfl, h1, h2⟩ := h
    have he := he.resolve_left (by omega)
    rcases nd_cases g a with c | c | c
    · exact absurd ⟨h1, h2⟩ c.2.2
    · exact ⟨c.1, c.2.1, rfl⟩
    · exact absurd c.2.2.2 he
  · obtain ⟨rfl, rfl, h1, h2, h3, h4⟩ := h
    rcases nd_cases g a with c | c | c
    · exact absurd ⟨h1, h2⟩ c.2.2
    · exact absurd ⟨h3, h4⟩ c.2.2.2
    · exact ⟨c.1, c.2.1, rfl⟩
/-- a number that fits; where a wrong one is at fault; the place behind it -/
def nok (g : Int → Int) (a lo hi : Int) : Prop := 1 ≤ nd g a ∧ lo ≤ nv g a ∧ nv g a ≤ hi
def nbad (g : Int → Int) (a : Int) : Int := if nd g a = 0 then a else a + nd g a - 1
theorem nbad_eq (g : Int → Int) (a : Int) : (nd g a = 0 → nbad g a = a) ∧ (1 ≤ nd g a → nbad g a = a + nd g a - 1) := by
  unfold nbad
  constructor
  · intro h; rw [if_pos h]
  · intro h; rw [if_neg (by omega)]
theorem nd_rng (g : Int → Int) (a : Int) : 0 ≤ nd g a ∧ nd g a ≤ 2 := by
  rcases nd_cases g a with c | c | c <;> omega
/-- a line of THE STAIRS from a on, n steps told before: (where it is at fault, or -1; the place behind it; how many steps) -/
def lnE (g : Int → Int) (a n : Int) : Int × Int × Int := if g a = 42 then (if 1 ≤ nd g (a + 1) ∧ 1 ≤ nv g (a + 1) ∧ nv g (a + 1) ≤ 24 - n then (-1, a + 1 + nd g (a + 1), nv g (a + 1)) else (nbad g (a + 1), 0, 0)) else (-1, a, 1)
def lnD (g : Int → Int) (a n : Int) : Int × Int × Int := if 48 ≤ g a ∧ g a ≤ 55 then lnE g (a + 1 + (if g (a + 1) = 119 then 1 else 0)) n else (a, 0, 0)
def lnC (g : Int → Int) (a n : Int) : Int × Int × Int := if 1 ≤ nd g a ∧ 0 ≤ nv g a ∧ nv g a ≤ 20 then (if g (a + nd g a) = 64 then lnD g (a + nd g a + 1) n else (a + nd g a, 0, 0)) else (nbad g a, 0, 0)
def lnB (g : Int → Int) (a n : Int) : Int × Int × Int := if 1 ≤ nd g a ∧ 0 ≤ nv g a ∧ nv g a ≤ 9 then (if g (a + nd g a) = 44 then lnC g (a + nd g a + 1) n else (a + nd g a, 0, 0)) else (nbad g a, 0, 0)
def lnA (g : Int → Int) (a n : Int) : Int × Int × Int := if 1 ≤ nd g a ∧ 1 ≤ nv g a ∧ nv g a ≤ 30 then (if g (a + nd g a) = 44 then lnB g (a + nd g a + 1) n else (a + nd g a, 0, 0)) else (nbad g a, 0, 0)
/-- all lines: (where at fault, or -1; steps told) -/
def rdS (g : Int → Int) (lim : Int) : Nat → Int → Int → Int × Int
  | 0, a, n => (a, n)
  | k + 1, a, n => if n < 24 then (if (lnA g a n).1 = -1 then (if (lnA g a n).2.1 < lim then (if g (lnA g a n).2.1 = 59 then rdS g lim k ((lnA g a n).2.1 + 1) (n + (lnA g a n).2.2) else ((lnA g a n).2.1, n + (lnA g a n).2.2)) else (-1, n + (lnA g a n).2.2)) else ((lnA g a n).1, n)) else (a, n)
/-- what stairs() answers to a text of s signs -/
def stA (f : Nat → Int32) (s : Int) : Int :=
  if s ≤ 0 then -100 else
  if (rdS (GS f (min s 76)) (min s 76) 77 0 0).1 = -1 then (if s ≤ 76 then (if 2 ≤ (rdS (GS f (min s 76)) (min s 76) 77 0 0).2 then (rdS (GS f (min s 76)) (min s 76) 77 0 0).2 else -100) else -77) else -1 - (rdS (GS f (min s 76)) (min s 76) 77 0 0).1
theorem lnE_ok {g : Int → Int} {a n : Int} (hn : n < 24) (h : (lnE g a n).1 = -1) (h0 : 0 ≤ a) : a ≤ (lnE g a n).2.1 ∧ (lnE g a n).2.1 ≤ a + 3 ∧ 1 ≤ (lnE g a n).2.2 ∧ n + (lnE g a n).2.2 ≤ 24 := by
  have nb := nbad_eq g (a + 1)
  have nr := nd_rng g (a + 1)
  unfold lnE at h ⊢
  by_cases c : g a = 42
  · rw [if_pos c] at h ⊢
    by_cases d : 1 ≤ nd g (a + 1) ∧ 1 ≤ nv g (a + 1) ∧ nv g (a + 1) ≤ 24 - n
    · rw [if_pos d]
      show a ≤ a + 1 + nd g (a + 1) ∧ a + 1 + nd g (a + 1) ≤ a + 3 ∧ 1 ≤ nv g (a + 1) ∧ n + nv g (a + 1) ≤ 24
      omega
    · rw [if_neg d] at h
      have h : nbad g (a + 1) = -1 := h
      omega
  · rw [if_neg c]
    show a ≤ a ∧ a ≤ a + 3 ∧ 1 ≤ (1 : Int) ∧ n + 1 ≤ 24
    omega
theorem lnD_ok {g : Int → Int} {a n : Int} (hn : n < 24) (h : (lnD g a n).1 = -1) (h0 : 0 ≤ a) : a + 1 ≤ (lnD g a n).2.1 ∧ (lnD g a n).2.1 ≤ a + 5 ∧ 1 ≤ (lnD g a n).2.2 ∧ n + (lnD g a n).2.2 ≤ 24 := by
  unfold lnD at h ⊢
  by_cases c : 48 ≤ g a ∧ g a ≤ 55
  · rw [if_pos c] at h ⊢
    by_cases d : g (a + 1) = 119
    · rw [if_pos d] at h ⊢
      have := lnE_ok hn h (by omega)
      omega
    · rw [if_neg d] at h ⊢
      have := lnE_ok hn h (by omega)
      omega
  · rw [if_neg c] at h
    have h : a = -1 := h
    omega
theorem lnC_ok {g : Int → Int} {a n : Int} (hn : n < 24) (h : (lnC g a n).1 = -1) (h0 : 0 ≤ a) : a + 3 ≤ (lnC g a n).2.1 ∧ (lnC g a n).2.1 ≤ a + 8 ∧ 1 ≤ (lnC g a n).2.2 ∧ n + (lnC g a n).2.2 ≤ 24 := by
  have nb := nbad_eq g a
  have nr := nd_rng g a
  unfold lnC at h ⊢
  by_cases c : 1 ≤ nd g a ∧ 0 ≤ nv g a ∧ nv g a ≤ 20
  · rw [if_pos c] at h ⊢
    by_cases d : g (a + nd g a) = 64
    · rw [if_pos d] at h ⊢
      have := lnD_ok hn h (by omega)
      omega
    · rw [if_neg d] at h
      have h : a + nd g a = -1 := h
      omega
  · rw [if_neg c] at h
    have h : nbad g a = -1 := h
    omega
theorem lnB_ok {g : Int → Int} {a n : Int} (hn : n < 24) (h : (lnB g a n).1 = -1) (h0 : 0 ≤ a) : a + 5 ≤ (lnB g a n).2.1 ∧ (lnB g a n).2.1 ≤ a + 11 ∧ 1 ≤ (lnB g a n).2.2 ∧ n + (lnB g a n).2.2 ≤ 24 := by
  have nb := nbad_eq g a
  have nr := nd_rng g a
  unfold lnB at h ⊢
  by_cases c : 1 ≤ nd g a ∧ 0 ≤ nv g a ∧ nv g a ≤ 9
  · rw [if_pos c] at h ⊢
    by_cases d : g (a + nd g a) = 44
    · rw [if_pos d] at h ⊢
      have := lnC_ok hn h (by omega)
      omega
    · rw [if_neg d] at h
      have h : a + nd g a = -1 := h
      omega
  · rw [if_neg c] at h
    have h : nbad g a = -1 := h
    omega
theorem lnA_ok {g : Int → Int} {a n : Int} (hn : n < 24) (h : (lnA g a n).1 = -1) (h0 : 0 ≤ a) : a + 7 ≤ (lnA g a n).2.1 ∧ (lnA g a n).2.1 ≤ a + 14 ∧ 1 ≤ (lnA g a n).2.2 ∧ n + (lnA g a n).2.2 ≤ 24 := by
  have nb := nbad_eq g a
  have nr := nd_rng g a
  unfold lnA at h ⊢
  by_cases c : 1 ≤ nd g a ∧ 1 ≤ nv g a ∧ nv g a ≤ 30
  · rw [if_pos c] at h ⊢
    by_cases d : g (a + nd g a) = 44
    · rw [if_pos d] at h ⊢
      have := lnB_ok hn h (by omega)
      omega
    · rw [if_neg d] at h
      have h : a + nd g a = -1 := h
      omega
  · rw [if_neg c] at h
    have h : nbad g a = -1 := h
    omega
/-- fuel does not matter -/
theorem rdS_fuel {g : Int → Int} {lim : Int} : ∀ (k k' : Nat) (a n : Int), 0 ≤ a → lim + 1 - a ≤ (k : Int) → lim + 1 - a ≤ (k' : Int) → a ≤ lim → rdS g lim k a n = rdS g lim k' a n := by
  intro k
  induction k with
  | zero => intro k' a n h0 h1 h2 h3; omega
  | succ k ih =>
    intro k' a n h0 h1 h2 h3
    cases k' with
    | zero => omega
    | succ k' =>
      unfold rdS
      by_cases c : n < 24
      · rw [if_pos c, if_pos c]
        by_cases d : (lnA g a n).1 = -1
        · rw [if_pos d, if_pos d]
          have := lnA_ok c d h0
          by_cases e : (lnA g a n).2.1 < lim
          · rw [if_pos e, if_pos e]
            by_cases f : g (lnA g a n).2.1 = 59
            · rw [if_pos f, if_pos f]
              exact ih k' _ _ (by omega) (by omega) (by omega) (by omega)
            · rw [if_neg f, if_neg f]
          · rw [if_neg e, if_neg e]
        · rw [if_neg d, if_neg d]
      · rw [if_neg c, if_neg c]
theorem lnE_lo {g : Int → Int} {a n : Int} (h0 : 0 ≤ a) : -1 ≤ (lnE g a n).1 := by
  have nb := nbad_eq g (a + 1)
  have nr := nd_rng g (a + 1)
  unfold lnE
  split
  · split
    · show (-1 : Int) ≤ -1; omega
    · show -1 ≤ nbad g (a + 1); omega
  · show (-1 : Int) ≤ -1; omega
theorem lnD_lo {g : Int → Int} {a n : Int} (h0 : 0 ≤ a) : -1 ≤ (lnD g a n).1 := by
  unfold lnD
  split
  · exact lnE_lo (by split <;> omega)
  · show -1 ≤ a; omega
theorem lnC_lo {g : Int → Int} {a n : Int} (h0 : 0 ≤ a) : -1 ≤ (lnC g a n).1 := by
  have nb := nbad_eq g a
  have nr := nd_rng g a
  unfold lnC
  split
  · split
    · exact lnD_lo (by omega)
    · show -1 ≤ a + nd g a; omega
  · show -1 ≤ nbad g a; omega
theorem lnB_lo {g : Int → Int} {a n : Int} (h0 : 0 ≤ a) : -1 ≤ (lnB g a n).1 := by
  have nb := nbad_eq g a
  have nr := nd_rng g a
  unfold lnB
  split
  · split
    · exact lnC_lo (by omega)
    · show -1 ≤ a + nd g a; omega
  · show -1 ≤ nbad g a; omega
theorem lnA_lo {g : Int → Int} {a n : Int} (h0 : 0 ≤ a) : -1 ≤ (lnA g a n).1 := by
  have nb := nbad_eq g a
  have nr := nd_rng g a
  unfold lnA
  split
  · split
    · exact lnB_lo (by omega)
    · show -1 ≤ a + nd g a; omega
  · show -1 ≤ nbad g a; omega
theorem rdS_lo {g : Int → Int} {lim : Int} : ∀ (k : Nat) (a n : Int), 0 ≤ a → -1 ≤ (rdS g lim k a n).1 := by
  intro k
  induction k with
  | zero => intro a n h0; unfold rdS; show -1 ≤ a; omega
  | succ k ih =>
    intro a n h0
    unfold rdS
    by_cases c : n < 24
    · rw [if_pos c]
      by_cases d : (lnA g a n).1 = -1
      · rw [if_pos d]
        have := lnA_ok c d h0
        split
        · split
          · exact ih _ _ (by omega)
          · show -1 ≤ (lnA g a n).2.1; omega
        · show (-1 : Int) ≤ -1; omega
      · rw [if_neg d]; exact lnA_lo h0
    · rw [if_neg c]; show -1 ≤ a; omega
/-- nothing is read behind the end -/
theorem nd_lim {g : Int → Int} {lim a : Int} (hg : ∀ x, lim ≤ x → g x = -1) (h : a ≤ lim) : a + nd g a ≤ lim := by
  rcases nd_cases g a with c | c | c
  · omega
  · have : ¬ lim ≤ a := fun q => by have := hg a q; omega
    omega
  · have : ¬ lim ≤ a + 1 := fun q => by have := hg (a + 1) q; omega
    omega
theorem at_lim {g : Int → Int} {lim a k : Int} (hg : ∀ x, lim ≤ x → g x = -1) (h : g a = k) (hk : 0 ≤ k) : a + 1 ≤ lim := by
  have : ¬ lim ≤ a := fun q => by have := hg a q; omega
  omega
theorem lnE_lim {g : Int → Int} {lim a n : Int} (hg : ∀ x, lim ≤ x → g x = -1) (h0 : 0 ≤ a) (ha : a ≤ lim) (h : (lnE g a n).1 = -1) : (lnE g a n).2.1 ≤ lim := by
  have nb := nbad_eq g (a + 1)
  have nr := nd_rng g (a + 1)
  unfold lnE at h ⊢
  by_cases c : g a = 42
  · rw [if_pos c] at h ⊢
    have h1 := at_lim hg c (by omega)
    by_cases d : 1 ≤ nd g (a + 1) ∧ 1 ≤ nv g (a + 1) ∧ nv g (a + 1) ≤ 24 - n
    · rw [if_pos d]
      exact nd_lim hg h1
    · rw [if_neg d] at h
      have h : nbad g (a + 1) = -1 := h
      omega
  · rw [if_neg c]
    exact ha
theorem lnD_lim {g : Int → Int} {lim a n : Int} (hg : ∀ x, lim ≤ x → g x = -1) (h0 : 0 ≤ a) (h : (lnD g a n).1 = -1) : (lnD g a n).2.1 ≤ lim := by
  unfold lnD at h ⊢
  by_cases c : 48 ≤ g a ∧ g a ≤ 55
  · rw [if_pos c] at h ⊢
    have h1 : a + 1 ≤ lim := at_lim hg rfl (by omega)
    by_cases d : g (a + 1) = 119
    · rw [if_pos d] at h ⊢
      have h2 := at_lim hg d (by omega)
      exact lnE_lim hg (by omega) h2 h
    · rw [if_neg d] at h ⊢
      exact lnE_lim hg (by omega) (by omega) h
  · rw [if_neg c] at h
    have h : a = -1 := h
    omega
theorem lnC_lim {g : Int → Int} {lim a n : Int} (hg : ∀ x, lim ≤ x → g x = -1) (h0 : 0 ≤ a) (h : (lnC g a n).1 = -1) : (lnC g a n).2.1 ≤ lim := by
  have nb := nbad_eq g a
  have nr := nd_rng g a
  unfold lnC at h ⊢
  by_cases c : 1 ≤ nd g a ∧ 0 ≤ nv g a ∧ nv g a ≤ 20
  · rw [if_pos c] at h ⊢
    by_cases d : g (a + nd g a) = 64
    · rw [if_pos d] at h ⊢
      exact lnD_lim hg (by omega) h
    · rw [if_neg d] at h
      have h : a + nd g a = -1 := h
      omega
  · rw [if_neg c] at h
    have h : nbad g a = -1 := h
    omega
theorem lnB_lim {g : Int → Int} {lim a n : Int} (hg : ∀ x, lim ≤ x → g x = -1) (h0 : 0 ≤ a) (h : (lnB g a n).1 = -1) : (lnB g a n).2.1 ≤ lim := by
  have nb := nbad_eq g a
  have nr := nd_rng g a
  unfold lnB at h ⊢
  by_cases c : 1 ≤ nd g a ∧ 0 ≤ nv g a ∧ nv g a ≤ 9
  · rw [if_pos c] at h ⊢
    by_cases d : g (a + nd g a) = 44
    · rw [if_pos d] at h ⊢
      exact lnC_lim hg (by omega) h
    · rw [if_neg d] at h
      have h : a + nd g a = -1 := h
      omega
  · rw [if_neg c] at h
    have h : nbad g a = -1 := h
    omega
theorem lnA_lim {g : Int → Int} {lim a n : Int} (hg : ∀ x, lim ≤ x → g x = -1) (h0 : 0 ≤ a) (h : (lnA g a n).1 = -1) : (lnA g a n).2.1 ≤ lim := by
  have nb := nbad_eq g a
  have nr := nd_rng g a
  unfold lnA at h ⊢
  by_cases c : 1 ≤ nd g a ∧ 1 ≤ nv g a ∧ nv g a ≤ 30
  · rw [if_pos c] at h ⊢
    by_cases d : g (a + nd g a) = 44
    · rw [if_pos d] at h ⊢
      exact lnB_lim hg (by omega) h
    · rw [if_neg d] at h
      have h : a + nd g a = -1 := h
      omega
  · rw [if_neg c] at h
    have h : nbad g a = -1 := h
    omega
theorem rdS_hi {g : Int → Int} {lim : Int} : ∀ (k : Nat) (a n : Int), 0 ≤ a → n ≤ 24 → (rdS g lim k a n).2 ≤ 24 := by
  intro k
  induction k with
  | zero => intro a n h0 hn; unfold rdS; exact hn
  | succ k ih =>
    intro a n h0 hn
    unfold rdS
    by_cases c : n < 24
    · rw [if_pos c]
      by_cases d : (lnA g a n).1 = -1
      · rw [if_pos d]
        have := lnA_ok c d h0
        split
        · split
          · exact ih _ _ (by omega) (by omega)
          · show n + (lnA g a n).2.2 ≤ 24; omega
        · show n + (lnA g a n).2.2 ≤ 24; omega
      · rw [if_neg d]; exact hn
    · rw [if_neg c]; exact hn
