section
/-! ===== longs as numbers ===== -/
theorem l_add {x y : Int64} {A B : Int} (hx : x.toInt = A) (hy : y.toInt = B) (h1 : -9223372036854775808 ≤ A + B) (h2 : A + B ≤ 9223372036854775807) : (x + y).toInt = A + B := by
  subst hx; subst hy
  rw [Int64.toInt_add, Int.bmod_def]; omega
theorem l_sub {x y : Int64} {A B : Int} (hx : x.toInt = A) (hy : y.toInt = B) (h1 : -9223372036854775808 ≤ A - B) (h2 : A - B ≤ 9223372036854775807) : (x - y).toInt = A - B := by
  subst hx; subst hy
  rw [Int64.toInt_sub, Int.bmod_def]; omega
theorem l_mul {x y : Int64} {A B : Int} (hx : x.toInt = A) (hy : y.toInt = B) (h1 : -9223372036854775808 ≤ A * B) (h2 : A * B ≤ 9223372036854775807) : (x * y).toInt = A * B := by
  subst hx; subst hy
  rw [Int64.toInt_mul, Int.bmod_def]
  generalize x.toInt * y.toInt = t at h1 h2 ⊢
  omega
theorem l_rng (x : Int64) : -9223372036854775808 ≤ x.toInt ∧ x.toInt ≤ 9223372036854775807 := by
  have h1 := Int64.le_toInt x
  have h2 := Int64.toInt_lt x
  omega
theorem l_div {x y : Int64} {A B : Int} (hx : x.toInt = A) (hy : y.toInt = B) (h0 : 0 ≤ A) (h1 : 0 < B) : (x / y).toInt = A / B := by
  subst hx; subst hy
  have hr := l_rng x
  rw [Int64.toInt_div, Int.tdiv_eq_ediv_of_nonneg h0, Int.bmod_def]
  have h2 : 0 ≤ x.toInt / y.toInt := Int.ediv_nonneg h0 (by omega)
  have h3 : x.toInt / y.toInt ≤ x.toInt := Int.ediv_le_self _ h0
  generalize x.toInt / y.toInt = t at h2 h3 ⊢
  omega
theorem lq_rem {x y : Int64} {A B : Int} (hx : x.toInt = A) (hy : y.toInt = B) (h0 : 0 ≤ A) (h1 : 0 < B) : (x - x / y * y).toInt = A % B := by
  have hd := l_div hx hy h0 h1
  have e : A / B * B = A - A % B := by
    have := Int.mul_ediv_add_emod A B
    rw [Int.mul_comm] at this
    omega
  have g1 := Int.emod_nonneg A (show B ≠ 0 by omega)
  have g2 := Int.emod_lt_of_pos A h1
  have g3 := l_rng x
  have g4 : A % B ≤ A := by
    by_cases hl : A < B
    · rw [Int.emod_eq_of_lt h0 hl]; omega
    · omega
  have hm := l_mul hd hy (by omega) (by omega)
  have hs := l_sub hx hm (by omega) (by omega)
  rw [hs]; omega
theorem lq_of {x : Int32} {A : Int} (h : x.toInt = A) : x.toInt64.toInt = A := by rw [Int32.toInt_toInt64]; exact h
theorem l_to {x : Int64} {A : Int} (h : x.toInt = A) (h1 : -2147483648 ≤ A) (h2 : A ≤ 2147483647) : x.toInt32.toInt = A := by
  rw [Int64.toInt_toInt32, h, Int.bmod_def]; omega
theorem l_le {x y : Int64} {A B : Int} (hx : x.toInt = A) (hy : y.toInt = B) : (lg_cmp x y ≤ 0) ↔ A ≤ B := by
  subst hx; subst hy
  have g : (x > y) ↔ y.toInt < x.toInt := Int64.lt_iff_toInt_lt
  have e : (x = y) ↔ x.toInt = y.toInt := ⟨fun h => by rw [h], fun h => Int64.toInt_inj.mp h⟩
  unfold lg_cmp
  by_cases c : x > y
  · rw [if_pos c]
    have := g.mp c
    constructor
    · intro h; exact absurd h (by decide)
    · intro h; omega
  · rw [if_neg c]
    have c' := (not_congr g).mp c
    by_cases d : x = y
    · rw [if_pos d]
      exact ⟨fun _ => by omega, fun _ => by decide⟩
    · rw [if_neg d]
      exact ⟨fun _ => by omega, fun _ => by decide⟩
theorem jpL_at {L : jL} {a j : Nat} {v : Int64} : jpL L a j v a j = v := by
  show va_up L a (vp_updL (L a) j v) a j = v
  rw [va_up_self]; exact if_pos rfl
theorem jpL_off {L : jL} {a j i : Nat} {v : Int64} (h : i ≠ j) : jpL L a j v a i = L a i := by
  show va_up L a (vp_updL (L a) j v) a i = L a i
  rw [va_up_self]; exact if_neg h
/-! ===== coppers divided by parts ===== -/
/-- the first of the greatest -/
def amx (r : Nat → Int) : Nat → Nat
  | 0 => 0
  | k + 1 => if r (amx r k) < r (k + 1) then k + 1 else amx r k
theorem amx_le (r : Nat → Int) : ∀ k, amx r k ≤ k := by
  intro k
  induction k with
  | zero => exact Nat.le_refl 0
  | succ k ih =>
    show (if r (amx r k) < r (k + 1) then k + 1 else amx r k) ≤ k + 1
    split <;> omega
theorem amx_cg {r r' : Nat → Int} : ∀ k, (∀ i, i ≤ k → r i = r' i) → amx r k = amx r' k := by
  intro k
  induction k with
  | zero => intro _; rfl
  | succ k ih =>
    intro h
    have e := ih (fun i hi => h i (by omega))
    have l := amx_le r' k
    show (if r (amx r k) < r (k + 1) then k + 1 else amx r k) = (if r' (amx r' k) < r' (k + 1) then k + 1 else amx r' k)
    rw [e, h (amx r' k) (by omega), h (k + 1) (by omega)]
/-- k coppers more, one by one to those with the greatest rest -/
def dvS (sh rm : Nat → Int) : Nat → (Nat → Int) × (Nat → Int)
  | 0 => (sh, rm)
  | k + 1 => (fun i => if i = amx (dvS sh rm k).2 7 then (dvS sh rm k).1 i + 1 else (dvS sh rm k).1 i, fun i => if i = amx (dvS sh rm k).2 7 then -1 else (dvS sh rm k).2 i)
theorem dvS_bd {sh rm : Nat → Int} {M : Int} (h1 : ∀ i, i < 8 → 0 ≤ sh i ∧ sh i ≤ M) (h2 : ∀ i, i < 8 → -1 ≤ rm i ∧ rm i ≤ M) (hM : 0 ≤ M) : ∀ k, (∀ i, i < 8 → 0 ≤ (dvS sh rm k).1 i ∧ (dvS sh rm k).1 i ≤ M + k) ∧ ∀ i, i < 8 → -1 ≤ (dvS sh rm k).2 i ∧ (dvS sh rm k).2 i ≤ M := by
  intro k
  induction k with
  | zero => exact ⟨fun i hi => by have := h1 i hi; exact ⟨this.1, by show sh i ≤ M + 0; omega⟩, h2⟩
  | succ k ih =>
    obtain ⟨a, b⟩ := ih
    refine ⟨fun i hi => ?_, fun i hi => ?_⟩
    · have := a i hi
      show 0 ≤ (if i = amx (dvS sh rm k).2 7 then (dvS sh rm k).1 i + 1 else (dvS sh rm k).1 i) ∧ (if i = amx (dvS sh rm k).2 7 then (dvS sh rm k).1 i + 1 else (dvS sh rm k).1 i) ≤ M + ((k + 1 : Nat) : Int)
      split <;> omega
    · have := b i hi
      show -1 ≤ (if i = amx (dvS sh rm k).2 7 then -1 else (dvS sh rm k).2 i) ∧ (if i = amx (dvS sh rm k).2 7 then -1 else (dvS sh rm k).2 i) ≤ M
      split <;> omega
/-- the class -/
theorem dv_L92 {Z : jZ} {I : jI} {L : jL} (w : WD Z I) (v0 : Nat) (kv0 : jk Z v0 11) (d6 : Nat) (h6 : jr Z v0 6 = some d6) (k6 : jk Z d6 14) (d7 : Nat) (h7 : jr Z v0 7 = some d7) (k7 : jk Z d7 14) (v3 v4 : Int32) (g : Nat) (e4 : v4.toInt = (g : Int)) (hg : g < 8) (sh rm : Nat → Int) (es : ∀ i, i < 8 → (I d6 i).toInt = sh i) (er : ∀ i, i < 8 → (I d7 i).toInt = rm i) (hs : ∀ i, i < 8 → 0 ≤ sh i ∧ sh i ≤ 2000000000) {K : Nat → Int32 → Int32 → jI → jL → Prop} {Q : jI → jL → Prop}
    (hK : ∀ (I' : jI) (x : Int32), WD Z I' → FR Ws_X11_divide Z I Z I' → x.toInt = ((g + 1 : Nat) : Int) → (∀ i, i < 8 → (I' d6 i).toInt = if i = amx rm 7 then sh i + 1 else sh i) → (∀ i, i < 8 → (I' d7 i).toInt = if i = amx rm 7 then -1 else rm i) → K v0 v3 x I' L) :
    ∀ (n k : Nat) (v5 v6 : Int32), v6.toInt = ((k + 1 : Nat) : Int) → k ≤ 7 → v5.toInt = (amx rm k : Int) → 8 ≤ n + k → f_X11_divide_L92 K Z Q n v0 v3 v4 v5 v6 I L := by
  have z1 : (1 : Int32).toInt = 1 := rfl
  have n67 : d6 ≠ d7 := ds_ne w.2.1 kv0 h6 h7 rfl rfl (by decide)
  intro n
  induction n with
  | zero => intro k v5 v6 e6 hk e5 hn; exfalso; omega
  | succ n ih =>
    intro k v5 v6 e6 hk e5 hn
    have la := amx_le rm k
    have q5 := i_nat e5 (by omega)
    have q5 : v5.toNatClampNeg = amx rm k := by omega
    have q6 := i_nat e6 (by omega)
    have q6 : v6.toNatClampNeg = k + 1 := by omega
    unfold f_X11_divide_L92
    refine ⟨fun c => ?_, fun c => ?_⟩
    · have c := (i_le (show (8 : Int32).toInt = 8 from rfl) e6).mp c
      have ek : k = 7 := by omega
      subst ek
      intro b3 e3
      cases h6.symm.trans e3
      refine ⟨vi_of e5 (by omega) (by omega), vi_of e5 (by omega) (by omega), ?_⟩
      intro I6 ei6
      rw [q5] at ei6
      have w6 : WD Z I6 := by rw [ei6]; exact WD_putA w 11 6 kv0 h6 k6 rfl rfl (by decide) trivial
      have f6 : FR Ws_X11_divide Z I Z I6 := by rw [ei6]; exact FR_upA w.2.1 kv0 h6 k6 rfl rfl (by decide)
      intro b7 e7
      cases h7.symm.trans e7
      refine ⟨vi_of e5 (by omega) (by omega), ?_⟩
      intro I9 ei9 x10 e10
      rw [q5] at ei9
      have w9 : WD Z I9 := by rw [ei9]; exact WD_putA w6 11 7 kv0 h7 k7 rfl rfl (by decide) trivial
      have f9 : FR Ws_X11_divide Z I Z I9 := f6.trans w.1 w.2.1 (by rw [ei9]; exact FR_upA w6.2.1 kv0 h7 k7 rfl rfl (by decide))
      refine hK I9 x10 w9 f9 ?_ (fun i hi => ?_) (fun i hi => ?_)
      · rw [e10]; exact (i_add e4 z1 (by omega) (by omega)).trans (by omega)
      · rw [ei9, jpI_ne n67]
        by_cases hq : i = amx rm 7
        · have hsi := hs (amx rm 7) (by omega)
          rw [if_pos hq, hq, ei6, jpI_at]
          exact i_add (es _ (by omega)) z1 (by omega) (by omega)
        · rw [if_neg hq, ei6, jpI_off hq]; exact es i hi
      · by_cases hq : i = amx rm 7
        · rw [if_pos hq, hq, ei9, jpI_at]; rfl
        · rw [if_neg hq, ei9, jpI_off hq, ei6, jpI_ne (fun e => n67 e.symm)]; exact er i hi
    have c := (not_congr (i_le (show (8 : Int32).toInt = 8 from rfl) e6)).mp c
    intro b11 e11
    cases h7.symm.trans e11
    refine ⟨vi_of e6 (by omega) (by omega), ?_⟩
    intro b13 e13
    cases h7.symm.trans e13
    refine ⟨vi_of e5 (by omega) (by omega), ?_⟩
    rw [q5, q6]
    have a1 := er (amx rm k) (by omega)
    have a2 := er (k + 1) (by omega)
    have nx : ∀ x : Int32, x = v6 + 1 → x.toInt = ((k + 1 + 1 : Nat) : Int) := fun x e => by rw [e]; exact (i_add e6 z1 (by omega) (by omega)).trans (by omega)
    refine ⟨fun c2 => ?_, fun c2 => ?_⟩
    · have c2 := (i_le a2 a1).mp c2
      unfold f_X11_divide_b123
      intro x1 ex1
      refine ih (k + 1) v5 x1 (nx x1 ex1) (by omega) ?_ (by omega)
      rw [e5]
      show _ = ((if rm (amx rm k) < rm (k + 1) then k + 1 else amx rm k : Nat) : Int)
      rw [if_neg (by omega)]
    · have c2 := (not_congr (i_le a2 a1)).mp c2
      unfold f_X11_divide_b123
      intro x1 ex1
      refine ih (k + 1) v6 x1 (nx x1 ex1) (by omega) ?_ (by omega)
      rw [e6]
      show _ = ((if rm (amx rm k) < rm (k + 1) then k + 1 else amx rm k : Nat) : Int)
      rw [if_pos (by omega)]
theorem dv_L73 {Z : jZ} {J : jI} (wJ : WD Z J) (v0 : Nat) (kv0 : jk Z v0 11) (d6 : Nat) (h6 : jr Z v0 6 = some d6) (k6 : jk Z d6 14) (d7 : Nat) (h7 : jr Z v0 7 = some d7) (k7 : jk Z d7 14) (v3 : Int32) (left : Nat) (e3 : v3.toInt = (left : Int)) (hl : left ≤ 7) (sh rm : Nat → Int) (M : Int) (hM : 0 ≤ M ∧ M ≤ 1000000000) (h1 : ∀ i, i < 8 → 0 ≤ sh i ∧ sh i ≤ M) (h2 : ∀ i, i < 8 → -1 ≤ rm i ∧ rm i ≤ M) {Q : jI → jL → Prop}
    (hQ : ∀ (I : jI) (L : jL), WD Z I → FR Ws_X11_divide Z J Z I → (∀ i, i < 8 → (I d6 i).toInt = (dvS sh rm left).1 i) → Q I L) :
    ∀ (n g : Nat) (v4 : Int32) (I : jI) (L : jL), WD Z I → FR Ws_X11_divide Z J Z I → v4.toInt = (g : Int) → g ≤ left → (∀ i, i < 8 → (I d6 i).toInt = (dvS sh rm g).1 i) → (∀ i, i < 8 → (I d7 i).toInt = (dvS sh rm g).2 i) → left + 1 ≤ n + g → f_X11_divide_L73 Z Q n v0 v3 v4 I L := by
  intro n
  induction n with
  | zero => intro g v4 I L w f e4 hg es er hn; exfalso; omega
  | succ n ih =>
    intro g v4 I L w f e4 hg es er hn
    unfold f_X11_divide_L73
    refine ⟨fun c => ?_, fun c => ⟨fun c2 => ?_, fun c2 => ?_⟩⟩
    · have c := (i_le e3 e4).mp c
      have eg : g = left := by omega
      subst eg
      exact hQ I L w f es
    · have c2 := (i_le (show (8 : Int32).toInt = 8 from rfl) e4).mp c2
      omega
    · have c := (not_congr (i_le e3 e4)).mp c
      have bd := dvS_bd h1 h2 hM.1 g
      refine ⟨8, dv_L92 w v0 kv0 d6 h6 k6 d7 h7 k7 v3 v4 g e4 (by omega) _ _ es er (fun i hi => by have := bd.1 i hi; omega) (fun I' x w' f' ex e6 e7 => ?_) 8 0 0 1 rfl (by omega) rfl (by omega)⟩
      exact ih (g + 1) x I' L w' (f.trans wJ.1 wJ.2.1 f') ex (by omega) e6 e7 (by omega)
/-- shares and rests at first -/
def sh0 (N W : Int) (wt : Nat → Int) : Nat → Int := fun i => N * wt i / W
def rmQ (N W : Int) (wt : Nat → Int) : Nat → Int := fun i => N * wt i % W
theorem sr_bd {N W : Int} {wt : Nat → Int} (hN : 0 ≤ N) (hW : 1 ≤ W) (hw : ∀ i, i < 8 → 0 ≤ wt i ∧ wt i ≤ W) (i : Nat) (hi : i < 8) : 0 ≤ N * wt i ∧ N * wt i ≤ N * W ∧ 0 ≤ sh0 N W wt i ∧ sh0 N W wt i ≤ N ∧ 0 ≤ rmQ N W wt i ∧ rmQ N W wt i < W := by
  have h := hw i hi
  have a : 0 ≤ N * wt i := Int.mul_nonneg hN h.1
  have b : N * wt i ≤ N * W := Int.mul_le_mul_of_nonneg_left h.2 hN
  refine ⟨a, b, Int.ediv_nonneg a (by omega), Int.ediv_le_of_le_mul (by omega) b, Int.emod_nonneg _ (by omega), Int.emod_lt_of_pos _ (by omega)⟩
theorem dv_L11 {Z : jZ} {J : jI} (wJ : WD Z J) (v0 : Nat) (kv0 : jk Z v0 11) (d6 : Nat) (h6 : jr Z v0 6 = some d6) (k6 : jk Z d6 14) (d7 : Nat) (h7 : jr Z v0 7 = some d7) (k7 : jk Z d7 14) (v1 v2 : Int32) (N W : Int) (e1 : v1.toInt = N) (e2 : v2.toInt = W) (hN : 0 ≤ N) (hW : 1 ≤ W) (hNW : N * W ≤ 1000000000) (wt : Nat → Int) (hw : ∀ i, i < 8 → 0 ≤ wt i ∧ wt i ≤ W) (ew : ∀ i, i < 8 → (J d6 i).toInt = wt i) (left : Nat) (el : N - shS (sh0 N W wt) 8 = (left : Int)) (hl : left ≤ 7) {Q : jI → jL → Prop}
    (hQ : ∀ (I : jI) (L : jL), WD Z I → FR Ws_X11_divide Z J Z I → (∀ i, i < 8 → (I d6 i).toInt = (dvS (sh0 N W wt) (rmQ N W wt) left).1 i) → Q I L) :
    ∀ (n f : Nat) (v3 v4 : Int32) (I : jI) (L : jL), WD Z I → FR Ws_X11_divide Z J Z I → v4.toInt = (f : Int) → f ≤ 8 → v3.toInt = N - shS (sh0 N W wt) f → (∀ i, i < f → (I d6 i).toInt = sh0 N W wt i ∧ (I d7 i).toInt = rmQ N W wt i) → (∀ i, f ≤ i → i < 8 → (I d6 i).toInt = wt i) → 9 ≤ n + f → f_X11_divide_L11 Z Q n v0 v1 v2 v3 v4 I L := by
  have z1 : (1 : Int32).toInt = 1 := rfl
  have n67 : d6 ≠ d7 := ds_ne wJ.2.1 kv0 h6 h7 rfl rfl (by decide)
  have hn2 : ¬ v2 = 0 := fun e => by have := congrArg Int32.toInt e; rw [show (0 : Int32).toInt = 0 from rfl] at this; omega
  have hN9 : N ≤ 1000000000 := by
    have h9 : N * 1 ≤ N * W := Int.mul_le_mul_of_nonneg_left hW hN
    rw [Int.mul_one] at h9
    omega
  have hS : ∀ f, f ≤ 8 → 0 ≤ shS (sh0 N W wt) f ∧ shS (sh0 N W wt) f ≤ N := by
    intro f hf
    have g := shS_ge (g := sh0 N W wt) (n := 8) (fun i hi => (sr_bd hN hW hw i hi).2.2.1)
    refine ⟨(g f hf).1, ?_⟩
    have mono : ∀ k, f + k ≤ 8 → shS (sh0 N W wt) f ≤ shS (sh0 N W wt) (f + k) := by
      intro k
      induction k with
      | zero => intro _; exact Int.le_refl _
      | succ k ih =>
        intro hk
        have a := ih (by omega)
        have b := (sr_bd hN hW hw (f + k) (by omega)).2.2.1
        show _ ≤ shS (sh0 N W wt) (f + k) + sh0 N W wt (f + k)
        omega
    have := mono (8 - f) (by omega)
    rw [show f + (8 - f) = 8 by omega] at this
    omega
  intro n
  induction n with
  | zero => intro f v3 v4 I L w fr e4 hf e3 h1 h2 hn; exfalso; omega
  | succ n ih =>
    intro f v3 v4 I L w fr e4 hf e3 h1 h2 hn
    unfold f_X11_divide_L11
    refine ⟨fun c => ?_, fun c => ?_⟩
    · have c := (i_le (show (8 : Int32).toInt = 8 from rfl) e4).mp c
      have ef : f = 8 := by omega
      subst ef
      refine ⟨left + 1, dv_L73 w v0 kv0 d6 h6 k6 d7 h7 k7 v3 left (by rw [e3]; exact el) hl (sh0 N W wt) (rmQ N W wt) (N * W) ?_ (fun i hi => ?_) (fun i hi => ?_) (fun I' L' w' f' g => hQ I' L' w' (fr.trans wJ.1 wJ.2.1 f') g) (left + 1) 0 0 I L w FR.rf rfl (by omega) (fun i hi => (h1 i hi).1) (fun i hi => (h1 i hi).2) (by omega)⟩
      · exact ⟨Int.mul_nonneg hN (by omega), hNW⟩
      · have b := sr_bd hN hW hw i hi
        refine ⟨b.2.2.1, Int.le_trans b.2.2.2.1 ?_⟩
        have h9 : N * 1 ≤ N * W := Int.mul_le_mul_of_nonneg_left hW hN
        rw [Int.mul_one] at h9
        exact h9
      · have b := sr_bd hN hW hw i hi
        refine ⟨by omega, ?_⟩
        have h8 : N * wt i % W ≤ N * wt i := by
          have := Int.mul_ediv_add_emod (N * wt i) W
          have h9 : 0 ≤ W * (N * wt i / W) := Int.mul_nonneg (by omega) (Int.ediv_nonneg b.1 (by omega))
          omega
        exact Int.le_trans h8 b.2.1
    have c := (not_congr (i_le (show (8 : Int32).toInt = 8 from rfl) e4)).mp c
    have q4 := i_nat e4 (by omega)
    have q4 : v4.toNatClampNeg = f := by omega
    have b := sr_bd hN hW hw f (by omega)
    have ef := h2 f (Nat.le_refl f) (by omega)
    have tm : (v1 * I d6 f).toInt = N * wt f := i_mul e1 ef (by omega) (by omega)
    intro b21 e21
    cases h7.symm.trans e21
    intro b22 e22
    cases h6.symm.trans e22
    refine ⟨vi_of e4 (by omega) (by omega), hn2, vi_of e4 (by omega) (by omega), ?_⟩
    intro I26 ei26
    rw [q4] at ei26
    have w26 : WD Z I26 := by rw [ei26]; exact WD_putA w 11 7 kv0 h7 k7 rfl rfl (by decide) trivial
    have f26 : FR Ws_X11_divide Z J Z I26 := fr.trans wJ.1 wJ.2.1 (by rw [ei26]; exact FR_upA w.2.1 kv0 h7 k7 rfl rfl (by decide))
    have o26 : I26 d6 = I d6 := by rw [ei26]; exact jpI_ne n67
    intro b27 e27
    cases h6.symm.trans e27
    intro b28 e28
    cases h6.symm.trans e28
    refine ⟨vi_of e4 (by omega) (by omega), hn2, vi_of e4 (by omega) (by omega), ?_⟩
    intro I32 ei32
    rw [q4, o26] at ei32
    have w32 : WD Z I32 := by rw [ei32]; exact WD_putA w26 11 6 kv0 h6 k6 rfl rfl (by decide) trivial
    have f32 : FR Ws_X11_divide Z J Z I32 := f26.trans wJ.1 wJ.2.1 (by rw [ei32]; exact FR_upA w26.2.1 kv0 h6 k6 rfl rfl (by decide))
    have y6 : (I32 d6 f).toInt = sh0 N W wt f := by rw [ei32, jpI_at]; exact i_div tm e2 b.1 (by omega)
    have y7 : (I32 d7 f).toInt = rmQ N W wt f := by rw [ei32, jpI_ne (fun e => n67 e.symm), ei26, jpI_at]; exact i_rem tm e2 b.1 (by omega)
    intro b33 e33
    cases h6.symm.trans e33
    refine ⟨vi_of e4 (by omega) (by omega), ?_⟩
    intro x35 e35 x36 e36
    rw [q4] at e35
    have hSf := hS f (by omega)
    refine ih (f + 1) x35 x36 I32 L w32 f32 ?_ (by omega) ?_ (fun i hi => ?_) (fun i hi hi8 => ?_) (by omega)
    · rw [e36]; exact (i_add e4 z1 (by omega) (by omega)).trans (by omega)
    · rw [e35, i_sub e3 y6 (by omega) (by omega)]
      show _ = N - (shS (sh0 N W wt) f + sh0 N W wt f)
      omega
    · by_cases hif : i = f
      · rw [hif]; exact ⟨y6, y7⟩
      · refine ⟨?_, ?_⟩
        · rw [ei32, jpI_off hif, o26]; exact (h1 i (by omega)).1
        · rw [ei32, jpI_ne (fun e => n67 e.symm), ei26, jpI_off hif]; exact (h1 i (by omega)).2
    · rw [ei32, jpI_off (by omega), o26]; exact h2 i (by omega) hi8
theorem s16_X11_divide {Z : jZ} {I : jI} {L : jL} (w : WD Z I) (v0 : Nat) (kv0 : jk Z v0 11) (v1 v2 : Int32) (d6 : Nat) (h6 : jr Z v0 6 = some d6) (N W : Int) (e1 : v1.toInt = N) (e2 : v2.toInt = W) (hN : 0 ≤ N) (hW : 1 ≤ W) (hNW : N * W ≤ 1000000000) (wt : Nat → Int) (hw : ∀ i, i < 8 → 0 ≤ wt i ∧ wt i ≤ W) (ew : ∀ i, i < 8 → (I d6 i).toInt = wt i) (left : Nat) (el : N - shS (sh0 N W wt) 8 = (left : Int)) (hl : left ≤ 7) {Q : jI → jL → Prop}
    (hQ : ∀ (I' : jI) (L' : jL), WD Z I' → FR Ws_X11_divide Z I Z I' → (∀ i, i < 8 → (I' d6 i).toInt = (dvS (sh0 N W wt) (rmQ N W wt) left).1 i) → Q I' L') : f_X11_divide v0 v1 v2 Z I L Q := by
  obtain ⟨x, ex, k6, -⟩ := sh_f w.1 kv0 (j := 6) (k := 14) (m := 8) rfl
  cases h6.symm.trans ex
  obtain ⟨d7, h7, k7, -⟩ := sh_f w.1 kv0 (j := 7) (k := 14) (m := 8) rfl
  unfold f_X11_divide
  refine ⟨fun _ => ⟨9, dv_L11 w v0 kv0 d6 h6 k6 d7 h7 k7 v1 v2 N W e1 e2 hN hW hNW wt hw ew left el hl hQ 9 0 v1 0 I L w FR.rf rfl (by omega) ?_ (fun i hi => absurd hi (by omega)) (fun i _ hi => ew i hi) (by omega)⟩, fun c => ?_⟩
  · rw [e1]
    show N = N - 0
    omega
  · exact absurd ((i_le (show (1 : Int32).toInt = 1 from rfl) e2).mpr hW) c
/-! ===== divide of the reference ===== -/
theorem dm_L147 {Z : jZ} {I : jI} {L : jL} (w : WD Z I) (v0 : Nat) (k0 : jk Z v0 12) (d5 : Nat) (h5 : jr Z v0 35 = some d5) (k5 : jk Z d5 14) (d6 : Nat) (h6 : jr Z v0 36 = some d6) (v5 : Int32) (g : Nat) (e5 : v5.toInt = (g : Int)) (hg : 1 ≤ g ∧ g ≤ 100) (sh rm : Nat → Int) (es : ∀ i, i < 8 → (I d5 i).toInt = sh i) (er : ∀ i, i < 8 → (L d6 i).toInt = rm i) (hs : ∀ i, i < 8 → 0 ≤ sh i ∧ sh i ≤ 2000000000) {K : Nat → Int32 → jI → jL → Prop} {Q : jI → jL → Prop}
    (hK : ∀ (I' : jI) (L' : jL) (x : Int32), WD Z I' → FR Ws_X12_divide Z I Z I' → x.toInt = (g : Int) - 1 → (∀ i, i < 8 → (I' d5 i).toInt = if i = amx rm 7 then sh i + 1 else sh i) → (∀ i, i < 8 → (L' d6 i).toInt = if i = amx rm 7 then -1 else rm i) → K v0 x I' L') :
    ∀ (n k : Nat) (v6 v7 : Int32), v7.toInt = ((k + 1 : Nat) : Int) → k ≤ 7 → v6.toInt = (amx rm k : Int) → 8 ≤ n + k → f_X12_divide_L147 K Z Q n v0 v5 v6 v7 I L := by
  have z1 : (1 : Int32).toInt = 1 := rfl
  intro n
  induction n with
  | zero => intro k v6 v7 e7 hk e6 hn; exfalso; omega
  | succ n ih =>
    intro k v6 v7 e7 hk e6 hn
    have la := amx_le rm k
    have q6 := i_nat e6 (by omega)
    have q6 : v6.toNatClampNeg = amx rm k := by omega
    have q7 := i_nat e7 (by omega)
    have q7 : v7.toNatClampNeg = k + 1 := by omega
    unfold f_X12_divide_L147
    refine ⟨fun c => ?_, fun c => ?_⟩
    · have c := (i_le (show (8 : Int32).toInt = 8 from rfl) e7).mp c
      have ek : k = 7 := by omega
      subst ek
      intro b3 e3
      cases h5.symm.trans e3
      refine ⟨vi_of e6 (by omega) (by omega), vi_of e6 (by omega) (by omega), ?_⟩
      intro I6 ei6
      rw [q6] at ei6
      have w6 : WD Z I6 := by rw [ei6]; exact WD_putA w 12 35 k0 h5 k5 rfl rfl (by decide) trivial
      have f6 : FR Ws_X12_divide Z I Z I6 := by rw [ei6]; exact FR_upA w.2.1 k0 h5 k5 rfl rfl (by decide)
      intro b7 e7'
      cases h6.symm.trans e7'
      refine ⟨vi_of e6 (by omega) (by omega), ?_⟩
      intro L9 el9 x10 e10
      rw [q6] at el9
      refine hK I6 L9 x10 w6 f6 ?_ (fun i hi => ?_) (fun i hi => ?_)
      · rw [e10]; exact (i_add e5 (show (-1 : Int32).toInt = -1 from rfl) (by omega) (by omega)).trans (by omega)
      · by_cases hq : i = amx rm 7
        · have hsi := hs (amx rm 7) (by omega)
          rw [if_pos hq, hq, ei6, jpI_at]
          exact i_add (es _ (by omega)) z1 (by omega) (by omega)
        · rw [if_neg hq, ei6, jpI_off hq]; exact es i hi
      · by_cases hq : i = amx rm 7
        · rw [if_pos hq, hq, el9, jpL_at]; rfl
        · rw [if_neg hq, el9, jpL_off hq]; exact er i hi
    have c := (not_congr (i_le (show (8 : Int32).toInt = 8 from rfl) e7)).mp c
    intro b11 e11
    cases h6.symm.trans e11
    refine ⟨vi_of e7 (by omega) (by omega), ?_⟩
    intro b13 e13
    cases h6.symm.trans e13
    refine ⟨vi_of e6 (by omega) (by omega), ?_⟩
    rw [q6, q7]
    have a1 := er (amx rm k) (by omega)
    have a2 := er (k + 1) (by omega)
    have nx : ∀ x : Int32, x = v7 + 1 → x.toInt = ((k + 1 + 1 : Nat) : Int) := fun x e => by rw [e]; exact (i_add e7 z1 (by omega) (by omega)).trans (by omega)
    refine ⟨fun c2 => ?_, fun c2 => ?_⟩
    · have c2 := (l_le a2 a1).mp c2
      unfold f_X12_divide_b176
      intro x1 ex1
      refine ih (k + 1) v6 x1 (nx x1 ex1) (by omega) ?_ (by omega)
      rw [e6]
      show _ = ((if rm (amx rm k) < rm (k + 1) then k + 1 else amx rm k : Nat) : Int)
      rw [if_neg (by omega)]
    · have c2 := (not_congr (l_le a2 a1)).mp c2
      unfold f_X12_divide_b176
      intro x1 ex1
      refine ih (k + 1) v7 x1 (nx x1 ex1) (by omega) ?_ (by omega)
      rw [e7]
      show _ = ((if rm (amx rm k) < rm (k + 1) then k + 1 else amx rm k : Nat) : Int)
      rw [if_pos (by omega)]
theorem dm_L136 {Z : jZ} {J : jI} (wJ : WD Z J) (v0 : Nat) (k0 : jk Z v0 12) (d5 : Nat) (h5 : jr Z v0 35 = some d5) (k5 : jk Z d5 14) (d6 : Nat) (h6 : jr Z v0 36 = some d6) (left : Nat) (hl : left ≤ 7) (sh rm : Nat → Int) (M : Int) (hM : 0 ≤ M ∧ M ≤ 1000000000) (h1 : ∀ i, i < 8 → 0 ≤ sh i ∧ sh i ≤ M) (h2 : ∀ i, i < 8 → -1 ≤ rm i ∧ rm i ≤ M) {Q : jI → jL → Prop}
    (hQ : ∀ (I : jI) (L : jL), WD Z I → FR Ws_X12_divide Z J Z I → (∀ i, i < 8 → (I d5 i).toInt = (dvS sh rm left).1 i) → Q I L) :
    ∀ (n g : Nat) (v5 : Int32) (I : jI) (L : jL), WD Z I → FR Ws_X12_divide Z J Z I → v5.toInt = (left : Int) - (g : Int) → g ≤ left → (∀ i, i < 8 → (I d5 i).toInt = (dvS sh rm g).1 i) → (∀ i, i < 8 → (L d6 i).toInt = (dvS sh rm g).2 i) → left + 1 ≤ n + g → f_X12_divide_L136 Z Q n v0 v5 I L := by
  intro n
  induction n with
  | zero => intro g v5 I L w f e5 hg es er hn; exfalso; omega
  | succ n ih =>
    intro g v5 I L w f e5 hg es er hn
    unfold f_X12_divide_L136
    refine ⟨fun c => ?_, fun c => ?_⟩
    · have c := (i_le e5 (show (0 : Int32).toInt = 0 from rfl)).mp c
      have eg : g = left := by omega
      subst eg
      exact hQ I L w f es
    · have c := (not_congr (i_le e5 (show (0 : Int32).toInt = 0 from rfl))).mp c
      have bd := dvS_bd h1 h2 hM.1 g
      refine ⟨8, dm_L147 w v0 k0 d5 h5 k5 d6 h6 v5 (left - g) (by omega) (by omega) _ _ es er (fun i hi => by have := bd.1 i hi; omega) (fun I' L' x w' f' ex e6 e7 => ?_) 8 0 0 1 rfl (by omega) rfl (by omega)⟩
      exact ih (g + 1) x I' L' w' (f.trans wJ.1 wJ.2.1 f') (by omega) (by omega) e6 e7 (by omega)
/-- what a FAMILY has: of one STEP (t), or of all -/
def wtM (P : Nat → Int32) (t : Int) (f : Nat) : Nat → Int := fun s => if t = -1 ∨ t = (s : Int) then (P (8 * s + f)).toInt else 0
theorem dm_L40 {Z : jZ} {I : jI} {L : jL} (w : WD Z I) (v0 : Nat) (k0 : jk Z v0 12) (u5 : Nat) (hu5 : jr Z v0 5 = some u5) (ku5 : jk Z u5 14) (d5 : Nat) (h5 : jr Z v0 35 = some d5) (k5 : jk Z d5 14) (d6 : Nat) (h6 : jr Z v0 36 = some d6) (v1 v2 : Int32) (v3 : Int64) (v5 v6 : Int32) (n f : Nat) (en : (I v0 0).toInt = (n : Int)) (hn : n ≤ 24) (N W : Int) (e1 : v1.toInt = N) (e3 : v3.toInt = W) (e6 : v6.toInt = (f : Int)) (hf : f < 8) (hN : 0 ≤ N) (hW : 1 ≤ W) (hNW : N * W ≤ 1000000000) (hp : ∀ s, s < n → 0 ≤ (I u5 (8 * s + f)).toInt ∧ (I u5 (8 * s + f)).toInt ≤ 720) (hw : shS (wtM (I u5) v2.toInt f) n ≤ W) (h5' : -1000000000 ≤ v5.toInt ∧ v5.toInt ≤ 1000000000) {K : Nat → Int32 → Int32 → Int64 → Int32 → Int32 → jI → jL → Prop} {Q : jI → jL → Prop}
    (hK : ∀ (I' : jI) (L' : jL) (x5 x6 : Int32), WD Z I' → FR Ws_X12_divide Z I Z I' → x6.toInt = ((f + 1 : Nat) : Int) → x5.toInt = v5.toInt - N * shS (wtM (I u5) v2.toInt f) n / W → (I' d5 f).toInt = N * shS (wtM (I u5) v2.toInt f) n / W → (∀ i, i ≠ f → I' d5 i = I d5 i) → (L' d6 f).toInt = N * shS (wtM (I u5) v2.toInt f) n % W → (∀ i, i ≠ f → L' d6 i = L d6 i) → K v0 v1 v2 v3 x5 x6 I' L') :
    ∀ (m s : Nat) (v7 : Int64) (v9 : Int32), v9.toInt = (s : Int) → s ≤ n → v7.toInt = shS (wtM (I u5) v2.toInt f) s → n + 1 ≤ m + s → f_X12_divide_L40 K Z Q m v0 v1 v2 v3 v5 v6 v7 v9 I L := by
  have z1 : (1 : Int32).toInt = 1 := rfl
  have hn3 : ¬ v3 = 0 := fun e => by have := congrArg Int64.toInt e; rw [show (0 : Int64).toInt = 0 from rfl] at this; omega
  have hb : ∀ i, i < n → 0 ≤ wtM (I u5) v2.toInt f i ∧ wtM (I u5) v2.toInt f i ≤ 720 := fun i hi => by
    have := hp i hi
    unfold wtM
    split <;> omega
  have hS := shS_bd (g := wtM (I u5) v2.toInt f) (n := n) hb
  intro m
  induction m with
  | zero => intro s v7 v9 e9 hs e7 hm; exfalso; omega
  | succ m ih =>
    intro s v7 v9 e9 hs e7 hm
    have hSs := hS s hs
    unfold f_X12_divide_L40
    refine ⟨fun c => ?_, fun c => ?_⟩
    · have c := (i_le en e9).mp c
      have es : s = n := by omega
      subst es
      have b0 : 0 ≤ N * shS (wtM (I u5) v2.toInt f) s := Int.mul_nonneg hN hSs.1
      have b1 : N * shS (wtM (I u5) v2.toInt f) s ≤ N * W := Int.mul_le_mul_of_nonneg_left hw hN
      have tm : ((v1.toInt64) * v7).toInt = N * shS (wtM (I u5) v2.toInt f) s := l_mul (lq_of e1) e7 (by omega) (by omega)
      have hN9 : N ≤ 1000000000 := by
        have h9 : N * 1 ≤ N * W := Int.mul_le_mul_of_nonneg_left hW hN
        rw [Int.mul_one] at h9
        omega
      have q0 : 0 ≤ N * shS (wtM (I u5) v2.toInt f) s / W := Int.ediv_nonneg b0 (by omega)
      have q1 : N * shS (wtM (I u5) v2.toInt f) s / W ≤ N := Int.ediv_le_of_le_mul (by omega) b1
      have td : ((((v1.toInt64) * v7) / v3).toInt32).toInt = N * shS (wtM (I u5) v2.toInt f) s / W := l_to (l_div tm e3 b0 (by omega)) (by omega) (by omega)
      have q6 := i_nat e6 (by omega)
      have q6 : v6.toNatClampNeg = f := by omega
      intro b23 e23
      cases h5.symm.trans e23
      refine ⟨hn3, vi_of e6 (by omega) (by omega), ?_⟩
      intro I26 e26 b27 e27
      cases h6.symm.trans e27
      rw [q6] at e26
      refine ⟨hn3, vi_of e6 (by omega) (by omega), ?_⟩
      intro L30 e30 b31 e31
      cases h5.symm.trans e31
      rw [q6] at e30
      refine ⟨vi_of e6 (by omega) (by omega), ?_⟩
      intro x33 e33 x34 e34
      rw [q6] at e33
      have y5 : (I26 d5 f).toInt = N * shS (wtM (I u5) v2.toInt f) s / W := by rw [e26, jpI_at]; exact td
      refine hK I26 L30 x33 x34 ?_ ?_ ?_ ?_ y5 (fun i hi => ?_) ?_ (fun i hi => ?_)
      · rw [e26]; exact WD_putA w 12 35 k0 h5 k5 rfl rfl (by decide) trivial
      · rw [e26]; exact FR_upA w.2.1 k0 h5 k5 rfl rfl (by decide)
      · rw [e34]; exact (i_add e6 z1 (by omega) (by omega)).trans (by omega)
      · rw [e33]; exact i_sub rfl y5 (by omega) (by omega)
      · rw [e26, jpI_off hi]
      · rw [e30, jpL_at]; exact lq_rem tm e3 b0 (by omega)
      · rw [e30, jpL_off hi]
    have c := (not_congr (i_le en e9)).mp c
    have hps := hp s (by omega)
    have nx : ∀ x : Int32, x = v9 + 1 → x.toInt = ((s + 1 : Nat) : Int) := fun x e => by rw [e]; exact (i_add e9 z1 (by omega) (by omega)).trans (by omega)
    have go : ∀ s1 : Int64, s1.toInt = wtM (I u5) v2.toInt f s → f_X12_divide_b80 K (f_X12_divide_L40 K Z Q m) Z Q v0 v1 v2 v3 v5 v6 v9 v7 s1 I L := fun s1 hs1 => by
      have hbs := hb s (by omega)
      unfold f_X12_divide_b80
      intro x18 e18 x19 e19
      refine ih (s + 1) x18 x19 (nx x19 e19) (by omega) ?_ (by omega)
      rw [e18, l_add e7 hs1 (by omega) (by omega)]
      rfl
    have g62 : (v2.toInt = -1 ∨ v2.toInt = (s : Int)) → f_X12_divide_b62 K (f_X12_divide_L40 K Z Q m) Z Q v0 v1 v2 v3 v5 v6 v9 v7 I L := fun hc => by
      have ti : (((8 : Int32) * v9) + v6).toInt = 8 * (s : Int) + (f : Int) := i_add (i_mul (show (8 : Int32).toInt = 8 from rfl) e9 (by omega) (by omega)) e6 (by omega) (by omega)
      have ni := i_nat ti (by omega)
      have ni : (((8 : Int32) * v9) + v6).toNatClampNeg = 8 * s + f := by omega
      unfold f_X12_divide_b62
      intro b20 e20
      cases hu5.symm.trans e20
      refine ⟨vi_of ti (by omega) (by omega), go _ ?_⟩
      rw [ni]
      unfold wtM
      rw [if_pos hc]
      exact lq_of rfl
    refine ⟨fun c2 => g62 (Or.inl ((i_eq rfl (show (-1 : Int32).toInt = -1 from rfl)).mp c2)), fun c2 => ⟨fun c3 => go 0 ?_, fun c3 => g62 (Or.inr ((i_eq rfl e9).mp c3))⟩⟩
    have c2 := (not_congr (i_eq (x := v2) (y := -1) rfl (show (-1 : Int32).toInt = -1 from rfl))).mp c2
    have c3 := (not_congr (i_eq (x := v2) (y := v9) rfl e9)).mp c3
    unfold wtM
    rw [if_neg (by omega)]
    rfl
theorem dm_L27 {Z : jZ} {J : jI} (wJ : WD Z J) (v0 : Nat) (k0 : jk Z v0 12) (u5 : Nat) (hu5 : jr Z v0 5 = some u5) (ku5 : jk Z u5 14) (d5 : Nat) (h5 : jr Z v0 35 = some d5) (k5 : jk Z d5 14) (d6 : Nat) (h6 : jr Z v0 36 = some d6) (v1 v2 : Int32) (v3 : Int64) (n : Nat) (en : (J v0 0).toInt = (n : Int)) (hn : n ≤ 24) (N W : Int) (e1 : v1.toInt = N) (e3 : v3.toInt = W) (hN : 0 ≤ N) (hW : 1 ≤ W) (hNW : N * W ≤ 1000000000) (hp : ∀ z, z < 8 * n → 0 ≤ (J u5 z).toInt ∧ (J u5 z).toInt ≤ 720) (wt : Nat → Int) (ew : ∀ f, f < 8 → shS (wtM (J u5) v2.toInt f) n = wt f) (hw : ∀ i, i < 8 → 0 ≤ wt i ∧ wt i ≤ W) (left : Nat) (el : N - shS (sh0 N W wt) 8 = (left : Int)) (hl : left ≤ 7) {Q : jI → jL → Prop}
    (hQ : ∀ (I : jI) (L : jL), WD Z I → FR Ws_X12_divide Z J Z I → (∀ i, i < 8 → (I d5 i).toInt = (dvS (sh0 N W wt) (rmQ N W wt) left).1 i) → Q I L) :
    ∀ (m f : Nat) (v5 v6 : Int32) (I : jI) (L : jL), WD Z I → FR Ws_X12_divide Z J Z I → v6.toInt = (f : Int) → f ≤ 8 → v5.toInt = N - shS (sh0 N W wt) f → (∀ i, i < f → (I d5 i).toInt = sh0 N W wt i ∧ (L d6 i).toInt = rmQ N W wt i) → 9 ≤ m + f → f_X12_divide_L27 Z Q m v0 v1 v2 v3 v5 v6 I L := by
  have hN9 : N ≤ 1000000000 := by
    have h9 : N * 1 ≤ N * W := Int.mul_le_mul_of_nonneg_left hW hN
    rw [Int.mul_one] at h9
    omega
  have mono : ∀ d k, k + d = 8 → shS (sh0 N W wt) k ≤ shS (sh0 N W wt) 8 := by
    intro d
    induction d with
    | zero =>
      intro k hk
      have ek : k = 8 := by omega
      subst ek
      exact Int.le_refl _
    | succ d ihd =>
      intro k hk
      have a := ihd (k + 1) (by omega)
      have b := (sr_bd hN hW hw k (by omega)).2.2.1
      have e : shS (sh0 N W wt) (k + 1) = shS (sh0 N W wt) k + sh0 N W wt k := rfl
      omega
  have hS : ∀ f, f ≤ 8 → 0 ≤ shS (sh0 N W wt) f ∧ shS (sh0 N W wt) f ≤ N := by
    intro f hf
    have g := shS_ge (g := sh0 N W wt) (n := 8) (fun i hi => (sr_bd hN hW hw i hi).2.2.1)
    have a := mono (8 - f) f (by omega)
    exact ⟨(g f hf).1, by omega⟩
  intro m
  induction m with
  | zero => intro f v5 v6 I L w fr e6 hf e5 h1 hm; exfalso; omega
  | succ m ih =>
    intro f v5 v6 I L w fr e6 hf e5 h1 hm
    have y5 : I u5 = J u5 := fr.2.2.2 v0 12 5 u5 k0 hu5 (by rw [ku5.2]; rfl) rfl (by decide)
    have y0 : (I v0 0).toInt = (n : Int) := by rw [fr.2.2.1 v0 12 0 k0 (by decide) (by decide)]; exact en
    have hSf := hS f hf
    unfold f_X12_divide_L27
    refine ⟨fun c => ?_, fun c => ?_⟩
    · have c := (i_le (show (8 : Int32).toInt = 8 from rfl) e6).mp c
      have ef : f = 8 := by omega
      subst ef
      refine ⟨left + 1, dm_L136 w v0 k0 d5 h5 k5 d6 h6 left hl (sh0 N W wt) (rmQ N W wt) (N * W) ⟨Int.mul_nonneg hN (by omega), hNW⟩ (fun i hi => ?_) (fun i hi => ?_) (fun I' L' w' f' g => hQ I' L' w' (fr.trans wJ.1 wJ.2.1 f') g) (left + 1) 0 v5 I L w FR.rf (by rw [e5, el]; show (left : Int) = (left : Int) - ((0 : Nat) : Int); omega) (by omega) (fun i hi => (h1 i hi).1) (fun i hi => (h1 i hi).2) (by omega)⟩
      · have b := sr_bd hN hW hw i hi
        refine ⟨b.2.2.1, Int.le_trans b.2.2.2.1 ?_⟩
        have h9 : N * 1 ≤ N * W := Int.mul_le_mul_of_nonneg_left hW hN
        rw [Int.mul_one] at h9
        exact h9
      · have b := sr_bd hN hW hw i hi
        refine ⟨by omega, ?_⟩
        have h8 : N * wt i % W ≤ N * wt i := by
          have := Int.mul_ediv_add_emod (N * wt i) W
          have h9 : 0 ≤ W * (N * wt i / W) := Int.mul_nonneg (by omega) (Int.ediv_nonneg b.1 (by omega))
          omega
        exact Int.le_trans h8 b.2.1
    have c := (not_congr (i_le (show (8 : Int32).toInt = 8 from rfl) e6)).mp c
    have hwf := hw f (by omega)
    have ewf := ew f (by omega)
    refine ⟨n + 1, dm_L40 w v0 k0 u5 hu5 ku5 d5 h5 k5 d6 h6 v1 v2 v3 v5 v6 n f y0 hn N W e1 e3 e6 (by omega) hN hW hNW (fun s hs => by rw [y5]; exact hp _ (by omega)) (by rw [y5, ewf]; exact hwf.2) (by omega) (fun I' L' x5 x6 w' f' t6 t5 g1 g2 g3 g4 => ?_) (n + 1) 0 0 0 rfl (by omega) rfl (by omega)⟩
    rw [y5, ewf] at t5 g1 g3
    refine ih (f + 1) x5 x6 I' L' w' (fr.trans wJ.1 wJ.2.1 f') t6 (by omega) ?_ (fun i hi => ?_) (by omega)
    · rw [t5, e5]
      show _ = N - (shS (sh0 N W wt) f + N * wt f / W)
      omega
    · by_cases hif : i = f
      · rw [hif]; exact ⟨g1, g3⟩
      · rw [g2 i hif, g4 i hif]; exact h1 i (by omega)
theorem s16_X12_divide {Z : jZ} {I : jI} {L : jL} (w : WD Z I) (v0 : Nat) (k0 : jk Z v0 12) (v1 v2 : Int32) (u5 : Nat) (hu5 : jr Z v0 5 = some u5) (d5 : Nat) (h5 : jr Z v0 35 = some d5) (n : Nat) (en : (I v0 0).toInt = (n : Int)) (hn : n ≤ 24) (N W : Int) (e1 : v1.toInt = N) (eW : W = if v2.toInt = -1 then 720 * (n : Int) else 720) (hN : 0 ≤ N) (hW : 1 ≤ W) (hNW : N * W ≤ 1000000000) (hp : ∀ z, z < 8 * n → 0 ≤ (I u5 z).toInt ∧ (I u5 z).toInt ≤ 720) (wt : Nat → Int) (ew : ∀ f, f < 8 → shS (wtM (I u5) v2.toInt f) n = wt f) (hw : ∀ i, i < 8 → 0 ≤ wt i ∧ wt i ≤ W) (left : Nat) (el : N - shS (sh0 N W wt) 8 = (left : Int)) (hl : left ≤ 7) {Q : jI → jL → Prop}
    (hQ : ∀ (I' : jI) (L' : jL), WD Z I' → FR Ws_X12_divide Z I Z I' → (∀ i, i < 8 → (I' d5 i).toInt = (dvS (sh0 N W wt) (rmQ N W wt) left).1 i) → Q I' L') : f_X12_divide v0 v1 v2 Z I L Q := by
  obtain ⟨x, ex, ku5, -⟩ := sh_f w.1 k0 (j := 5) (k := 14) (m := 192) rfl
  cases hu5.symm.trans ex
  obtain ⟨x, ex, k5, -⟩ := sh_f w.1 k0 (j := 35) (k := 14) (m := 8) rfl
  cases h5.symm.trans ex
  obtain ⟨d6, h6, -⟩ := sh_f w.1 k0 (j := 36) (k := 15) (m := 8) rfl
  have go : ∀ s0 : Int64, s0.toInt = W → f_X12_divide_b20 Z Q v0 v1 v2 s0 I L := fun s0 hs => by
    unfold f_X12_divide_b20
    refine ⟨9, dm_L27 w v0 k0 u5 hu5 ku5 d5 h5 k5 d6 h6 v1 v2 s0 n en hn N W e1 hs hN hW hNW hp wt ew hw left el hl hQ 9 0 v1 0 I L w FR.rf rfl (by omega) ?_ (fun i hi => absurd hi (by omega)) (by omega)⟩
    rw [e1]
    show N = N - 0
    omega
  unfold f_X12_divide
  refine ⟨fun c => go 720 ?_, fun c => go _ ?_⟩
  · have c := (not_congr (i_eq (x := v2) (y := -1) rfl (show (-1 : Int32).toInt = -1 from rfl))).mp c
    rw [eW, if_neg c]; rfl
  · have c := (i_eq (x := v2) (y := -1) rfl (show (-1 : Int32).toInt = -1 from rfl)).mp c
    rw [eW, if_pos c]
    exact l_mul (show (720 : Int64).toInt = 720 from rfl) (lq_of en) (by omega) (by omega)
/-- fewer coppers are left than there are FAMILIES -/
theorem shS_mul {g : Nat → Int} {c : Int} : ∀ n, shS (fun i => c * g i) n = c * shS g n := by
  intro n
  induction n with
  | zero => show (0 : Int) = c * 0; rw [Int.mul_zero]
  | succ n ih =>
    show shS (fun i => c * g i) n + c * g n = c * (shS g n + g n)
    rw [ih, Int.mul_add]
theorem shS_add {g h : Nat → Int} : ∀ n, shS (fun i => g i + h i) n = shS g n + shS h n := by
  intro n
  induction n with
  | zero => rfl
  | succ n ih =>
    show shS (fun i => g i + h i) n + (g n + h n) = shS g n + g n + (shS h n + h n)
    rw [ih]
    omega
theorem shS_lt {g : Nat → Int} {B : Int} {n : Nat} (h : ∀ i, i < n → g i ≤ B) : ∀ k, k ≤ n → shS g k ≤ (k : Int) * B := by
  intro k
  induction k with
  | zero => intro _; show (0 : Int) ≤ ((0 : Nat) : Int) * B; rw [show ((0 : Nat) : Int) = 0 from rfl, Int.zero_mul]; exact Int.le_refl 0
  | succ k ih =>
    intro hk
    have a := ih (by omega)
    have b := h k (by omega)
    show shS g k + g k ≤ ((k + 1 : Nat) : Int) * B
    rw [show ((k + 1 : Nat) : Int) = (k : Int) + 1 from rfl, Int.add_mul, Int.one_mul]
    omega
theorem left_ok {N W : Int} {wt : Nat → Int} (hN : 0 ≤ N) (hW : 1 ≤ W) (hw : ∀ i, i < 8 → 0 ≤ wt i ∧ wt i ≤ W) (hs : shS wt 8 = W) : ∃ left : Nat, N - shS (sh0 N W wt) 8 = (left : Int) ∧ left ≤ 7 := by
  have e : shS (fun i => N * wt i) 8 = W * shS (sh0 N W wt) 8 + shS (rmQ N W wt) 8 := by
    rw [← shS_mul, ← shS_add]
    exact shS_cg 8 (fun i _ => by
      show N * wt i = W * (N * wt i / W) + N * wt i % W
      exact (Int.mul_ediv_add_emod (N * wt i) W).symm)
  rw [shS_mul, hs] at e
  have r0 := (shS_ge (g := rmQ N W wt) (n := 8) (fun i hi => (sr_bd hN hW hw i hi).2.2.2.2.1) 8 (Nat.le_refl 8)).1
  have r1 := shS_lt (g := rmQ N W wt) (B := W - 1) (n := 8) (fun i hi => by have := (sr_bd hN hW hw i hi).2.2.2.2.2; omega) 8 (Nat.le_refl 8)
  have ex : W * (N - shS (sh0 N W wt) 8) = shS (rmQ N W wt) 8 := by
    rw [Int.mul_sub, Int.mul_comm W N]
    omega
  have hi : N - shS (sh0 N W wt) 8 < 8 := by
    refine Int.lt_of_mul_lt_mul_left (a := W) ?_ (by omega)
    rw [ex]
    have r1 : shS (rmQ N W wt) 8 ≤ 8 * (W - 1) := r1
    omega
  have lo : 0 ≤ N - shS (sh0 N W wt) 8 := by
    rcases Int.lt_or_le (N - shS (sh0 N W wt) 8) 0 with h | h
    · have : W * (N - shS (sh0 N W wt) 8) ≤ W * (-1) := Int.mul_le_mul_of_nonneg_left (by omega) (by omega)
      rw [ex] at this
      omega
    · exact h
  exact ⟨(N - shS (sh0 N W wt) 8).toNat, by omega, by omega⟩
theorem shS_swap {g : Nat → Nat → Int} {m : Nat} : ∀ n, shS (fun f => shS (fun s => g s f) n) m = shS (fun s => shS (fun f => g s f) m) n := by
  intro n
  induction n with
  | zero =>
    show shS (fun _ => (0 : Int)) m = 0
    induction m with
    | zero => rfl
    | succ m ih => show shS (fun _ => (0 : Int)) m + 0 = 0; rw [ih]; rfl
  | succ n ih =>
    show shS (fun f => shS (fun s => g s f) n + g n f) m = shS (fun s => shS (fun f => g s f) m) n + shS (fun f => g n f) m
    rw [shS_add, ih]
theorem OWP_all {n : Nat} {P : Nat → Int32} (h : OWP n P) : shS (fun f => shS (fun s => (P (8 * s + f)).toInt) n) 8 = 720 * (n : Int) := by
  rw [shS_swap]
  have : ∀ k, k ≤ n → shS (fun s => shS (fun f => (P (8 * s + f)).toInt) 8) k = 720 * (k : Int) := by
    intro k
    induction k with
    | zero => intro _; rfl
    | succ k ih =>
      intro hk
      show shS (fun s => shS (fun f => (P (8 * s + f)).toInt) 8) k + shS (fun f => (P (8 * k + f)).toInt) 8 = 720 * ((k + 1 : Nat) : Int)
      rw [ih (by omega), (h k (by omega)).2]
      omega
  exact this n (Nat.le_refl n)
/-! ===== rail ===== -/
theorem su_L2 {Z : jZ} {J : jI} (wJ : WD Z J) (v0 : Nat) (k0 : jk Z v0 4) (x0 : Nat) (h0 : jr Z v0 0 = some x0) (kx : jk Z x0 14) (o : Nat) (ko : jk Z o 11) (d6 : Nat) (h6 : jr Z o 6 = some d6) (k6 : jk Z d6 14) (l6 : jlen Z d6 = 8) (hb : ∀ z, z < 192 → 0 ≤ (J x0 z).toInt ∧ (J x0 z).toInt ≤ 720) {Q : jI → jL → Prop}
    (hQ : ∀ (I : jI) (L : jL), WD Z I → FR [(11, 6)] Z J Z I → (∀ f, f < 8 → (I d6 f).toInt = shS (fun s => (J x0 (8 * s + f)).toInt) 24) → Q I L) :
    ∀ (n f : Nat) (v2 : Int32) (I : jI) (L : jL), WD Z I → FR [(11, 6)] Z J Z I → v2.toInt = (f : Int) → f ≤ 8 → (∀ i, i < f → (I d6 i).toInt = shS (fun s => (J x0 (8 * s + i)).toInt) 24) → 9 ≤ n + f → f_X4_sumInto_L2 Z Q n v0 d6 v2 I L := by
  have zn : (nI (jlen Z d6)).toInt = 8 := by rw [l6]; exact i_nI (n := 8) (by omega)
  intro n
  induction n with
  | zero => intro f v2 I L w fr e2 hf h1 hn; exfalso; omega
  | succ n ih =>
    intro f v2 I L w fr e2 hf h1 hn
    have y0 : I x0 = J x0 := fr.2.2.2 v0 4 0 x0 k0 h0 (by rw [kx.2]; rfl) rfl (by decide)
    unfold f_X4_sumInto_L2
    refine ⟨fun c => ?_, fun c => ⟨fun c2 => ?_, fun c2 => ?_⟩⟩
    · have c := (i_le (show (8 : Int32).toInt = 8 from rfl) e2).mp c
      exact hQ I L w fr (fun f' hf' => h1 f' (by omega))
    · have c2 := (i_le zn e2).mp c2
      exact hQ I L w fr (fun f' hf' => h1 f' (by omega))
    · have c := (not_congr (i_le (show (8 : Int32).toInt = 8 from rfl) e2)).mp c
      have q2 := i_nat e2 (by omega)
      have q2 : v2.toNatClampNeg = f := by omega
      refine s15_X4_sumOf w v0 v2 k0 x0 h0 f e2 (by omega) (fun s hs => by rw [y0]; exact hb _ (by omega)) (fun r hr => ?_)
      rw [y0] at hr
      refine ⟨by rw [l6]; exact vi_of e2 (by omega) (by omega), ?_⟩
      intro I11 e11 x12 e12
      rw [q2] at e11
      refine ih (f + 1) x12 I11 L ?_ ?_ ?_ (by omega) (fun i hi => ?_) (by omega)
      · rw [e11]; exact WD_putA w 11 6 ko h6 k6 rfl rfl (by decide) trivial
      · refine fr.trans wJ.1 wJ.2.1 ?_
        rw [e11]; exact FR_upA w.2.1 ko h6 k6 rfl rfl List.mem_cons_self
      · rw [e12]; exact (i_add e2 (show (1 : Int32).toInt = 1 from rfl) (by omega) (by omega)).trans (by omega)
      · by_cases hif : i = f
        · rw [hif, e11, jpI_at]; exact hr
        · rw [e11, jpI_off hif]; exact h1 i (by omega)
/-- how many have some -/
def soM (sh : Nat → Int) : Nat → Int := fun i => if 0 < sh i then 1 else 0
theorem soM_bd (sh : Nat → Int) : ∀ k : Nat, 0 ≤ shS (soM sh) k ∧ shS (soM sh) k ≤ (k : Int) := by
  intro k
  induction k with
  | zero => exact ⟨Int.le_refl 0, Int.le_refl 0⟩
  | succ k ih =>
    have : 0 ≤ soM sh k ∧ soM sh k ≤ 1 := by unfold soM; split <;> omega
    show 0 ≤ shS (soM sh) k + soM sh k ∧ shS (soM sh) k + soM sh k ≤ ((k + 1 : Nat) : Int)
    omega
theorem ra_L61 {Z : jZ} {J : jI} (wJ : WD Z J) (v0 : Nat) (kv0 : jk Z v0 11) (d6 : Nat) (h6 : jr Z v0 6 = some d6) (k6 : jk Z d6 14) (sh : Nat → Int) (es : ∀ i, i < 8 → (J d6 i).toInt = sh i) {Q : Int32 → jI → jL → Prop}
    (hQ : ∀ (r : Int32) (I : jI) (L : jL), WD Z I → FR Ws_X11_tellMore Z J Z I → r.toInt = shS (soM sh) 8 → Q r I L) :
    ∀ (n f : Nat) (v2 v3 : Int32) (I : jI) (L : jL), WD Z I → FR Ws_X11_tellMore Z J Z I → v3.toInt = (f : Int) → f ≤ 8 → v2.toInt = shS (soM sh) f → 9 ≤ n + f → f_X11_rail_L61 Z Q n v0 v2 v3 I L := by
  intro n
  induction n with
  | zero => intro f v2 v3 I L w fr e3 hf e2 hn; exfalso; omega
  | succ n ih =>
    intro f v2 v3 I L w fr e3 hf e2 hn
    have bd := soM_bd sh f
    unfold f_X11_rail_L61
    refine ⟨fun c => ?_, fun c => ?_⟩
    · have c := (i_le (show (8 : Int32).toInt = 8 from rfl) e3).mp c
      have ef : f = 8 := by omega
      subst ef
      exact hQ v2 I L w fr e2
    have c := (not_congr (i_le (show (8 : Int32).toInt = 8 from rfl) e3)).mp c
    have q3 := i_nat e3 (by omega)
    have q3 : v3.toNatClampNeg = f := by omega
    intro b4 e4
    cases h6.symm.trans e4
    refine ⟨vi_of e3 (by omega) (by omega), ?_⟩
    refine s_X11_tellMore w v0 _ kv0 (fun I8 L8 w8 f8 => ?_)
    have f8' := fr.trans wJ.1 wJ.2.1 f8
    have y6 : I8 d6 = J d6 := f8'.2.2.2 v0 11 6 d6 kv0 h6 (by rw [k6.2]; rfl) rfl (by decide)
    intro b12 e12
    cases h6.symm.trans e12
    refine ⟨vi_of e3 (by omega) (by omega), ?_⟩
    rw [q3, y6]
    have go : ∀ s1 : Int32, s1.toInt = soM sh f → f_X11_rail_b93 (f_X11_rail_L61 Z Q n) Z Q v0 v3 v2 s1 I8 L8 := fun s1 h1 => by
      have b1 : 0 ≤ soM sh f ∧ soM sh f ≤ 1 := by unfold soM; split <;> omega
      unfold f_X11_rail_b93
      intro x1 ex1 x2 ex2
      refine ih (f + 1) x1 x2 I8 L8 w8 f8' ?_ (by omega) ?_ (by omega)
      · rw [ex2]; exact (i_add e3 (show (1 : Int32).toInt = 1 from rfl) (by omega) (by omega)).trans (by omega)
      · rw [ex1, i_add e2 h1 (by omega) (by omega)]; rfl
    have ef := es f (by omega)
    refine ⟨fun c2 => go 0 ?_, fun c2 => go 1 ?_⟩
    · have c2 := (i_le ef (show (0 : Int32).toInt = 0 from rfl)).mp c2
      unfold soM
      rw [if_neg (by omega)]; rfl
    · have c2 := (not_congr (i_le ef (show (0 : Int32).toInt = 0 from rfl))).mp c2
      unfold soM
      rw [if_pos (by omega)]; rfl
/-- what rail answers: wt what each FAMILY has of n STEPS -/
def RAIr (n : Nat) (wt : Nat → Int) (v1 r : Int32) : Prop := (¬ (1 ≤ n ∧ 0 ≤ v1.toInt ∧ v1.toInt ≤ 9999) ∧ r.toInt = -1) ∨ ((1 ≤ n ∧ 0 ≤ v1.toInt ∧ v1.toInt ≤ 9999) ∧ ∀ left : Nat, v1.toInt - shS (sh0 v1.toInt (720 * (n : Int)) wt) 8 = (left : Int) → r.toInt = shS (soM (dvS (sh0 v1.toInt (720 * (n : Int)) wt) (rmQ v1.toInt (720 * (n : Int)) wt) left).1) 8)
theorem s16_X11_rail {Z : jZ} {I : jI} {L : jL} (w : WD Z I) (v0 : Nat) (v1 : Int32) (kv0 : jk Z v0 11) (uF uP x0 x2 : Nat) (pc : PCs Z v0 uF uP x0 x2) (n : Nat) (en : (I uF 9).toInt = (n : Int)) (hb : ∀ z, z < 192 → 0 ≤ (I x0 z).toInt ∧ (I x0 z).toInt ≤ 720) (hs : shS (fun f => shS (fun s => (I x0 (8 * s + f)).toInt) 24) 8 = 720 * (n : Int)) {Q : Int32 → jI → jL → Prop} (hQ : ∀ (r : Int32) (I' : jI) (L' : jL), WD Z I' → FR Ws_X11_rail Z I Z I' → RAIr n (fun f => shS (fun s => (I x0 (8 * s + f)).toInt) 24) v1 r → Q r I' L') : f_X11_rail v0 v1 Z I L Q := by
  obtain ⟨huF, kF, huP, kP, h0, k0, h2, k2⟩ := pc
  have t9 : 0 ≤ (I uF 9).toInt ∧ (I uF 9).toInt ≤ 24 := w.fld 8 9 kF (by decide)
  obtain ⟨d6, h6, k6, l6⟩ := sh_f w.1 kv0 (j := 6) (k := 14) (m := 8) rfl
  have z0 : (0 : Int32).toInt = 0 := rfl
  have bad : ¬ (1 ≤ n ∧ 0 ≤ v1.toInt ∧ v1.toInt ≤ 9999) → Q (-1 : Int32) I L := fun h => hQ _ I L w FR.rf (Or.inl ⟨h, rfl⟩)
  unfold f_X11_rail
  refine ⟨fun c => bad (by have c := (i_lt (x := v1) (y := 0) rfl z0).mp c; omega), fun c => ⟨fun c2 => bad (by have c2 := (i_lt (x := 9999) (y := v1) (show (9999 : Int32).toInt = 9999 from rfl) rfl).mp c2; omega), fun c2 => ?_⟩⟩
  have c := (not_congr (i_lt (x := v1) (y := 0) rfl z0)).mp c
  have c2 := (not_congr (i_lt (x := 9999) (y := v1) (show (9999 : Int32).toInt = 9999 from rfl) rfl)).mp c2
  intro b17 e17
  cases huF.symm.trans e17
  refine ⟨fun c3 => ?_, fun c3 => bad (by have c3 := yz c3; omega)⟩
  have c3 := nz c3
  intro b19 e19
  cases huF.symm.trans e19
  intro b20 e20
  cases huP.symm.trans e20
  intro b21 e21
  cases h6.symm.trans e21
  unfold f_X4_sumInto
  refine ⟨9, su_L2 w uP kP x0 h0 k0 v0 kv0 d6 h6 k6 l6 hb (fun I1 L1 w1 f1 y1 => ?_) 9 0 0 I L w FR.rf rfl (by omega) (fun i hi => absurd hi (by omega)) (by omega)⟩
  intro b28 e28
  cases huF.symm.trans e28
  have t1 : (I1 uF 9).toInt = (n : Int) := by rw [f1.2.2.1 uF 8 9 kF (by decide) (by decide)]; exact en
  have tW : ((720 : Int32) * (I1 uF 9)).toInt = 720 * (n : Int) := i_mul (show (720 : Int32).toInt = 720 from rfl) t1 (by omega) (by omega)
  have w0 : ∀ i, i < 8 → 0 ≤ shS (fun s => (I x0 (8 * s + i)).toInt) 24 := fun i hi => (shS_bd (g := fun s => (I x0 (8 * s + i)).toInt) (n := 24) (fun s hs' => hb _ (by omega)) 24 (Nat.le_refl 24)).1
  have hw : ∀ i, i < 8 → 0 ≤ shS (fun s => (I x0 (8 * s + i)).toInt) 24 ∧ shS (fun s => (I x0 (8 * s + i)).toInt) 24 ≤ 720 * (n : Int) := fun i hi => by
    refine ⟨w0 i hi, ?_⟩
    have g := (shS_ge (g := fun f => shS (fun s => (I x0 (8 * s + f)).toInt) 24) (n := 8) w0 8 (Nat.le_refl 8)).2 i hi
    rw [hs] at g
    exact g
  have hNW : v1.toInt * (720 * (n : Int)) ≤ 1000000000 := by
    have h8 : v1.toInt * (720 * (n : Int)) ≤ 9999 * (720 * 24) := Int.mul_le_mul (by omega) (by omega) (by omega) (by omega)
    omega
  obtain ⟨left, el, hl⟩ := left_ok (N := v1.toInt) (W := 720 * (n : Int)) (by omega) (by omega) hw hs
  refine s16_X11_divide w1 v0 kv0 v1 _ d6 h6 v1.toInt (720 * (n : Int)) rfl tW (by omega) (by omega) hNW _ hw y1 left el hl (fun I2 L2 w2 f2 y2 => ?_)
  have g2 : FR Ws_X11_rail Z I Z I2 := (f1.mono (by decide)).trans w.1 w.2.1 (f2.mono (by decide))
  refine s_X11_tellNothing w2 v0 kv0 (fun I3 L3 w3 f3 => ?_)
  have y3 : I3 d6 = I2 d6 := f3.2.2.2 v0 11 6 d6 kv0 h6 (by rw [k6.2]; rfl) rfl (by decide)
  refine ⟨9, ra_L61 w3 v0 kv0 d6 h6 k6 (dvS (sh0 v1.toInt (720 * (n : Int)) (fun f => shS (fun s => (I x0 (8 * s + f)).toInt) 24)) (rmQ v1.toInt (720 * (n : Int)) (fun f => shS (fun s => (I x0 (8 * s + f)).toInt) 24)) left).1 (fun i hi => by rw [y3]; exact y2 i hi) (fun r I4 L4 w4 f4 hr => ?_) 9 0 0 0 I3 L3 w3 FR.rf rfl (by omega) rfl (by omega)⟩
  refine hQ r I4 L4 w4 ((g2.trans w.1 w.2.1 (f3.mono (by decide))).trans w.1 w.2.1 (f4.mono (by decide))) (Or.inr ⟨⟨by omega, by omega, by omega⟩, fun left' el' => ?_⟩)
  have : left' = left := by omega
  rw [this]
  exact hr
theorem rm_L40 {Z : jZ} {J : jI} (wJ : WD Z J) (v0 : Nat) (k0 : jk Z v0 12) (d5 : Nat) (h5 : jr Z v0 35 = some d5) (k5 : jk Z d5 14) (sh : Nat → Int) (es : ∀ i, i < 8 → (J d5 i).toInt = sh i) {Q : Int32 → jI → jL → Prop}
    (hQ : ∀ (r : Int32) (I : jI) (L : jL), WD Z I → FR [(12, 21)] Z J Z I → r.toInt = shS (soM sh) 8 → Q r I L) :
    ∀ (n f : Nat) (v2 v3 : Int32) (I : jI) (L : jL), WD Z I → FR [(12, 21)] Z J Z I → (I v0 21).toInt = (f : Int) → v3.toInt = (f : Int) → f ≤ 8 → v2.toInt = shS (soM sh) f → 9 ≤ n + f → f_X12_rail_L40 Z Q n v0 v2 v3 I L := by
  intro n
  induction n with
  | zero => intro f v2 v3 I L w fr e21 e3 hf e2 hn; exfalso; omega
  | succ n ih =>
    intro f v2 v3 I L w fr e21 e3 hf e2 hn
    have bd := soM_bd sh f
    unfold f_X12_rail_L40
    refine ⟨fun c => ?_, fun c => ?_⟩
    · have c := (i_le (show (8 : Int32).toInt = 8 from rfl) e3).mp c
      have ef : f = 8 := by omega
      subst ef
      exact hQ v2 I L w fr e2
    have c := (not_congr (i_le (show (8 : Int32).toInt = 8 from rfl) e3)).mp c
    have q3 := i_nat e3 (by omega)
    have q3 : v3.toNatClampNeg = f := by omega
    intro b4 e4
    cases h5.symm.trans e4
    refine ⟨vi_of e3 (by omega) (by omega), ?_⟩
    refine s_X12_tell w v0 _ k0 (by omega) (fun I8 L8 w8 f8 p8 => ?_)
    have f8' := fr.trans wJ.1 wJ.2.1 (f8.mono (by decide))
    have y5 : I8 d5 = J d5 := f8'.2.2.2 v0 12 35 d5 k0 h5 (by rw [k5.2]; rfl) rfl (by decide)
    intro b12 e12
    cases h5.symm.trans e12
    refine ⟨vi_of e3 (by omega) (by omega), ?_⟩
    rw [q3, y5]
    have go : ∀ s1 : Int32, s1.toInt = soM sh f → f_X12_rail_b72 (f_X12_rail_L40 Z Q n) Z Q v0 v3 v2 s1 I8 L8 := fun s1 h1 => by
      have b1 : 0 ≤ soM sh f ∧ soM sh f ≤ 1 := by unfold soM; split <;> omega
      unfold f_X12_rail_b72
      intro x1 ex1 x2 ex2
      refine ih (f + 1) x1 x2 I8 L8 w8 f8' (by omega) ?_ (by omega) ?_ (by omega)
      · rw [ex2]; exact (i_add e3 (show (1 : Int32).toInt = 1 from rfl) (by omega) (by omega)).trans (by omega)
      · rw [ex1, i_add e2 h1 (by omega) (by omega)]; rfl
    have ef := es f (by omega)
    refine ⟨fun c2 => go 0 ?_, fun c2 => go 1 ?_⟩
    · have c2 := (i_le ef (show (0 : Int32).toInt = 0 from rfl)).mp c2
      unfold soM
      rw [if_neg (by omega)]; rfl
    · have c2 := (not_congr (i_le ef (show (0 : Int32).toInt = 0 from rfl))).mp c2
      unfold soM
      rw [if_pos (by omega)]; rfl
theorem s16_X12_rail {Z : jZ} {I : jI} {L : jL} (w : WD Z I) (v0 : Nat) (v1 : Int32) (kv0 : jk Z v0 12) (u5 u53 u54 : Nat) (pm : PMs Z v0 u5 u53 u54) (n : Nat) (en : (I v0 0).toInt = (n : Int)) (ok : OWP n (I u5)) {Q : Int32 → jI → jL → Prop} (hQ : ∀ (r : Int32) (I' : jI) (L' : jL), WD Z I' → FR Ws_X12_rail Z I Z I' → RAIr n (fun f => shS (fun s => (I u5 (8 * s + f)).toInt) n) v1 r → Q r I' L') : f_X12_rail v0 v1 Z I L Q := by
  obtain ⟨h5, k5, -⟩ := pm
  obtain ⟨d5, hd5, kd5, -⟩ := sh_f w.1 kv0 (j := 35) (k := 14) (m := 8) rfl
  have t0 : 0 ≤ (I v0 0).toInt ∧ (I v0 0).toInt ≤ 24 := w.fld 12 0 kv0 (by decide)
  have z0 : (0 : Int32).toInt = 0 := rfl
  have z9 : (9999 : Int32).toInt = 9999 := rfl
  unfold f_X12_rail
  intro I1 e1
  have w1 : WD Z I1 := by rw [e1]; exact WD_putF w 12 22 kv0 (by decide) (by decide) trivial
  have f1 : FR Ws_X12_rail Z I Z I1 := by rw [e1]; exact FR_putF kv0 (by decide) (by decide)
  have s0 : (I1 v0 0).toInt = (n : Int) := by rw [e1, jpI_o (by decide)]; exact en
  have o5 : I1 u5 = I u5 := by rw [e1]; exact jpI_ne (ks_ne k5 kv0 (by decide))
  have bad : ¬ (1 ≤ n ∧ 0 ≤ v1.toInt ∧ v1.toInt ≤ 9999) → Q (-1 : Int32) I1 L := fun h => hQ _ I1 L w1 f1 (Or.inl ⟨h, rfl⟩)
  refine ⟨fun c => bad (by have c := yz c; omega), fun c => ?_⟩
  have c := nz c
  refine s_X12_in w1 _ _ _ (fun r p => ⟨fun c2 => ?_, fun c2 => bad (by have c2 := yz c2; omega)⟩)
  have c2 := nz c2
  have ew : ∀ f, f < 8 → shS (wtM (I1 u5) (-1 : Int32).toInt f) n = shS (fun s => (I u5 (8 * s + f)).toInt) n := fun f hf => shS_cg n (fun i hi => by
    show (if (-1 : Int32).toInt = -1 ∨ _ then _ else _) = _
    rw [if_pos (Or.inl (show (-1 : Int32).toInt = -1 from rfl)), o5])
  have w0 : ∀ i, i < 8 → 0 ≤ shS (fun s => (I u5 (8 * s + i)).toInt) n := fun i hi => (shS_bd (g := fun s => (I u5 (8 * s + i)).toInt) (n := n) (fun s hs' => OWP_le ok (by omega)) n (Nat.le_refl n)).1
  have hs := OWP_all ok
  have hw : ∀ i, i < 8 → 0 ≤ shS (fun s => (I u5 (8 * s + i)).toInt) n ∧ shS (fun s => (I u5 (8 * s + i)).toInt) n ≤ 720 * (n : Int) := fun i hi => by
    refine ⟨w0 i hi, ?_⟩
    have g := (shS_ge (g := fun f => shS (fun s => (I u5 (8 * s + f)).toInt) n) (n := 8) w0 8 (Nat.le_refl 8)).2 i hi
    rw [hs] at g
    exact g
  have hNW : v1.toInt * (720 * (n : Int)) ≤ 1000000000 := by
    have h8 : v1.toInt * (720 * (n : Int)) ≤ 9999 * (720 * 24) := Int.mul_le_mul (by omega) (by omega) (by omega) (by omega)
    omega
  obtain ⟨left, el, hl⟩ := left_ok (N := v1.toInt) (W := 720 * (n : Int)) (by omega) (by omega) hw hs
  refine s16_X12_divide w1 v0 kv0 v1 (-1) u5 h5 d5 hd5 n s0 (by omega) v1.toInt (720 * (n : Int)) rfl (if_pos (show (-1 : Int32).toInt = -1 from rfl)).symm (by omega) (by omega) hNW (fun z hz => by rw [o5]; exact OWP_le ok hz) _ ew hw left el hl (fun I2 L2 w2 f2 y2 => ?_)
  intro I3 e3
  have w3 : WD Z I3 := by rw [e3]; exact WD_putF w2 12 21 kv0 (by decide) (by decide) (show rg 0 40 _ from ⟨by decide, by decide⟩)
  have f3 : FR Ws_X12_rail Z I Z I3 := (f1.trans w.1 w.2.1 (f2.mono (by decide))).trans w.1 w.2.1 (by rw [e3]; exact FR_putF kv0 (by decide) (by decide))
  have y3 : I3 d5 = I2 d5 := by rw [e3]; exact jpI_ne (ks_ne kd5 kv0 (by decide))
  refine ⟨9, rm_L40 w3 v0 kv0 d5 hd5 kd5 (dvS (sh0 v1.toInt (720 * (n : Int)) (fun f => shS (fun s => (I u5 (8 * s + f)).toInt) n)) (rmQ v1.toInt (720 * (n : Int)) (fun f => shS (fun s => (I u5 (8 * s + f)).toInt) n)) left).1 (fun i hi => by rw [y3]; exact y2 i hi) (fun r I4 L4 w4 f4 hr => ?_) 9 0 0 0 I3 L2 w3 FR.rf (by rw [e3, jpI_at]; rfl) rfl (by omega) rfl (by omega)⟩
  refine hQ r I4 L4 w4 (f3.trans w.1 w.2.1 (f4.mono (by decide))) (Or.inr ⟨⟨by omega, by omega, by omega⟩, fun left' el' => ?_⟩)
  have : left' = left := by omega
  rw [this]
  exact hr
theorem sum_PP {n : Nat} {P T : Nat → Int32} (n24 : n ≤ 24) (h : PP n P T) (f : Nat) (hf : f < 8) : shS (fun s => (P (8 * s + f)).toInt) 24 = shS (fun s => (T (8 * s + f)).toInt) n := by
  have e1 := shS_tail (g := fun s => (P (8 * s + f)).toInt) (n := n) (24 - n) (fun i h1 h2 => by
    show (P (8 * i + f)).toInt = 0
    rw [h.2.1 _ (by omega) (by omega)]
    rfl)
  rw [show n + (24 - n) = 24 by omega] at e1
  rw [e1]
  exact shS_cg n (fun i hi => by rw [h.1 _ (by omega)])
theorem RAIr_cg {n : Nat} {wt wt' : Nat → Int} {v r : Int32} (e : ∀ f, f < 8 → wt f = wt' f) (h : RAIr n wt v r) : RAIr n wt' v r := by
  have e1 : shS (sh0 v.toInt (720 * (n : Int)) wt) 8 = shS (sh0 v.toInt (720 * (n : Int)) wt') 8 := shS_cg 8 (fun i hi => by unfold sh0; rw [e i hi])
  have e2 : ∀ k, (∀ i, i < 8 → (dvS (sh0 v.toInt (720 * (n : Int)) wt) (rmQ v.toInt (720 * (n : Int)) wt) k).1 i = (dvS (sh0 v.toInt (720 * (n : Int)) wt') (rmQ v.toInt (720 * (n : Int)) wt') k).1 i) ∧ ∀ i, i < 8 → (dvS (sh0 v.toInt (720 * (n : Int)) wt) (rmQ v.toInt (720 * (n : Int)) wt) k).2 i = (dvS (sh0 v.toInt (720 * (n : Int)) wt') (rmQ v.toInt (720 * (n : Int)) wt') k).2 i := by
    intro k
    induction k with
    | zero =>
      refine ⟨fun i hi => ?_, fun i hi => ?_⟩
      · show v.toInt * wt i / _ = v.toInt * wt' i / _
        rw [e i hi]
      · show v.toInt * wt i % _ = v.toInt * wt' i % _
        rw [e i hi]
    | succ k ih =>
      have ea := amx_cg 7 (fun i hi => ih.2 i (by omega))
      refine ⟨fun i hi => ?_, fun i hi => ?_⟩
      · show (if i = amx (dvS (sh0 v.toInt (720 * (n : Int)) wt) (rmQ v.toInt (720 * (n : Int)) wt) k).2 7 then _ else _) = (if i = amx (dvS (sh0 v.toInt (720 * (n : Int)) wt') (rmQ v.toInt (720 * (n : Int)) wt') k).2 7 then _ else _)
        rw [ea, ih.1 i hi]
      · show (if i = amx (dvS (sh0 v.toInt (720 * (n : Int)) wt) (rmQ v.toInt (720 * (n : Int)) wt) k).2 7 then _ else _) = (if i = amx (dvS (sh0 v.toInt (720 * (n : Int)) wt') (rmQ v.toInt (720 * (n : Int)) wt') k).2 7 then _ else _)
        rw [ea, ih.2 i hi]
  rcases h with ⟨h1, h2⟩ | ⟨h1, h2⟩
  · exact Or.inl ⟨h1, h2⟩
  · refine Or.inr ⟨h1, fun left el => ?_⟩
    rw [h2 left (by rw [e1]; exact el)]
    exact shS_cg 8 (fun i hi => by unfold soM; rw [(e2 left).1 i hi])
theorem RAIr_eq {n : Nat} {wt wt' : Nat → Int} {v r q : Int32} (hw : ∀ i, i < 8 → 0 ≤ wt i ∧ wt i ≤ 720 * (n : Int)) (hs : shS wt 8 = 720 * (n : Int)) (e : ∀ f, f < 8 → wt f = wt' f) (h : RAIr n wt v r) (g : RAIr n wt' v q) : r.toInt = q.toInt := by
  have h := RAIr_cg e h
  rcases h with ⟨h1, h2⟩ | ⟨h1, h2⟩
  · rcases g with ⟨g1, g2⟩ | ⟨g1, g2⟩
    · rw [h2, g2]
    · exact absurd g1 h1
  · rcases g with ⟨g1, g2⟩ | ⟨g1, g2⟩
    · exact absurd h1 g1
    · have hw' : ∀ i, i < 8 → 0 ≤ wt' i ∧ wt' i ≤ 720 * (n : Int) := fun i hi => by rw [← e i hi]; exact hw i hi
      have hs' : shS wt' 8 = 720 * (n : Int) := by rw [← hs]; exact shS_cg 8 (fun i hi => (e i hi).symm)
      obtain ⟨left, el, -⟩ := left_ok (N := v.toInt) (W := 720 * (n : Int)) (by omega) (by omega) hw' hs'
      rw [h2 left el, g2 left el]
theorem PP_hs {n : Nat} {P T : Nat → Int32} (n24 : n ≤ 24) (h : PP n P T) : shS (fun f => shS (fun s => (P (8 * s + f)).toInt) 24) 8 = 720 * (n : Int) := by
  rw [← OWP_all h.2.2]
  exact shS_cg 8 (fun f hf => sum_PP n24 h f hf)
theorem RAI_eq {n : Nat} {P T T' : Nat → Int32} {v r q : Int32} (n24 : n ≤ 24) (h : PP n P T) (e : T' = T) (p : RAIr n (fun f => shS (fun s => (P (8 * s + f)).toInt) 24) v r) (g : RAIr n (fun f => shS (fun s => (T' (8 * s + f)).toInt) n) v q) : r.toInt = q.toInt := by
  subst e
  have w0 : ∀ i, i < 8 → 0 ≤ shS (fun s => (P (8 * s + i)).toInt) 24 := fun i hi => (shS_bd (g := fun s => (P (8 * s + i)).toInt) (n := 24) (fun s hs => PP_le h (by omega)) 24 (Nat.le_refl 24)).1
  have hs := PP_hs n24 h
  refine RAIr_eq (fun i hi => ⟨w0 i hi, ?_⟩) hs (fun f hf => sum_PP n24 h f hf) p g
  have a := (shS_ge (g := fun f => shS (fun s => (P (8 * s + f)).toInt) 24) (n := 8) w0 8 (Nat.le_refl 8)).2 i hi
  rw [hs] at a
  exact a
end
section
/-! ===== what is shown twice holds at once ===== -/
set_option maxHeartbeats 4000000 in
theorem and_X8_has {v0 : Nat} {v1 : Int32} {Z : jZ} {I : jI} {L : jL} {Q1 Q2 Q3 : Int32 → jI → jL → Prop} (h1 : f_X8_has v0 v1 Z I L Q1) (h2 : f_X8_has v0 v1 Z I L Q2) (hq : ∀ (x0 : Int32) (x1 : jI) (x2 : jL), Q1 x0 x1 x2 → Q2 x0 x1 x2 → Q3 x0 x1 x2) : f_X8_has v0 v1 Z I L Q3 := by
  unfold f_X8_has at h1 h2 ⊢
  refine ⟨fun c => ?_, fun c => ?_⟩
  · have h1 := h1.1 c
    have h2 := h2.1 c
    exact hq _ _ _ h1 h2
  · have h1 := h1.2 c
    have h2 := h2.2 c
    refine ⟨fun c => ?_, fun c => ?_⟩
    · have h1 := h1.1 c
      have h2 := h2.1 c
      exact hq _ _ _ h1 h2
    · have h1 := h1.2 c
      have h2 := h2.2 c
      refine ⟨fun c => ?_, fun c => ?_⟩
      · have h1 := h1.1 c
        have h2 := h2.1 c
        exact hq _ _ _ h1 h2
      · have h1 := h1.2 c
        have h2 := h2.2 c
        exact hq _ _ _ h1 h2
set_option maxHeartbeats 4000000 in
theorem and_X11_isFamily {v0 : Int32} {Z : jZ} {I : jI} {L : jL} {Q1 Q2 Q3 : Int32 → jI → jL → Prop} (h1 : f_X11_isFamily v0 Z I L Q1) (h2 : f_X11_isFamily v0 Z I L Q2) (hq : ∀ (x0 : Int32) (x1 : jI) (x2 : jL), Q1 x0 x1 x2 → Q2 x0 x1 x2 → Q3 x0 x1 x2) : f_X11_isFamily v0 Z I L Q3 := by
  unfold f_X11_isFamily at h1 h2 ⊢
  refine ⟨fun c => ?_, fun c => ?_⟩
  · have h1 := h1.1 c
    have h2 := h2.1 c
    exact hq _ _ _ h1 h2
  · have h1 := h1.2 c
    have h2 := h2.2 c
    refine ⟨fun c => ?_, fun c => ?_⟩
    · have h1 := h1.1 c
      have h2 := h2.1 c
      exact hq _ _ _ h1 h2
    · have h1 := h1.2 c
      have h2 := h2.2 c
      exact hq _ _ _ h1 h2
set_option maxHeartbeats 4000000 in
theorem and_X4_shareOf {v0 : Nat} {v1 : Int32} {v2 : Int32} {Z : jZ} {I : jI} {L : jL} {Q1 Q2 Q3 : Int32 → jI → jL → Prop} (h1 : f_X4_shareOf v0 v1 v2 Z I L Q1) (h2 : f_X4_shareOf v0 v1 v2 Z I L Q2) (hq : ∀ (x0 : Int32) (x1 : jI) (x2 : jL), Q1 x0 x1 x2 → Q2 x0 x1 x2 → Q3 x0 x1 x2) : f_X4_shareOf v0 v1 v2 Z I L Q3 := by
  unfold f_X4_shareOf at h1 h2 ⊢
  refine ⟨fun c => ?_, fun c => ?_⟩
  · have h1 := h1.1 c
    have h2 := h2.1 c
    exact hq _ _ _ h1 h2
  · have h1 := h1.2 c
    have h2 := h2.2 c
    refine ⟨fun c => ?_, fun c => ?_⟩
    · have h1 := h1.1 c
      have h2 := h2.1 c
      exact hq _ _ _ h1 h2
    · have h1 := h1.2 c
      have h2 := h2.2 c
      refine and_X11_isFamily h1 h2 (fun r9 I5 L6 h1 h2 => ?_)
      refine ⟨fun c => ?_, fun c => ?_⟩
      · have h1 := h1.1 c
        have h2 := h2.1 c
        exact hq _ _ _ h1 h2
      · have h1 := h1.2 c
        have h2 := h2.2 c
        intro b11 eb11
        have h1 := h1 b11 eb11
        have h2 := h2 b11 eb11
        refine ⟨h1.1, ?_⟩
        have h1 := h1.2
        have h2 := h2.2
        exact hq _ _ _ h1 h2
set_option maxHeartbeats 4000000 in
theorem and_X4_remember {v0 : Nat} {Z : jZ} {I : jI} {L : jL} {Q1 Q2 Q3 : jI → jL → Prop} (h1 : f_X4_remember v0 Z I L Q1) (h2 : f_X4_remember v0 Z I L Q2) (hq : ∀ (x0 : jI) (x1 : jL), Q1 x0 x1 → Q2 x0 x1 → Q3 x0 x1) : f_X4_remember v0 Z I L Q3 := by
  unfold f_X4_remember at h1 h2 ⊢
  refine ⟨fun c => ?_, fun c => ?_⟩
  · have h1 := h1.1 c
    have h2 := h2.1 c
    unfold f_X4_remember_b32 at h1 h2 ⊢
    intro x1 ex1
    have h1 := h1 x1 ex1
    have h2 := h2 x1 ex1
    intro b2 eb2
    have h1 := h1 b2 eb2
    have h2 := h2 b2 eb2
    intro b3 eb3
    have h1 := h1 b3 eb3
    have h2 := h2 b3 eb3
    refine ⟨h1.1, ?_⟩
    have h1 := h1.2
    have h2 := h2.2
    intro I5 eI5
    have h1 := h1 I5 eI5
    have h2 := h2 I5 eI5
    intro I6 eI6
    have h1 := h1 I6 eI6
    have h2 := h2 I6 eI6
    exact hq _ _ h1 h2
  · have h1 := h1.2 c
    have h2 := h2.2 c
    intro I8 eI8
    have h1 := h1 I8 eI8
    have h2 := h2 I8 eI8
    intro I9 eI9
    have h1 := h1 I9 eI9
    have h2 := h2 I9 eI9
    unfold f_X4_remember_b32 at h1 h2 ⊢
    intro x1 ex1
    have h1 := h1 x1 ex1
    have h2 := h2 x1 ex1
    intro b2 eb2
    have h1 := h1 b2 eb2
    have h2 := h2 b2 eb2
    intro b3 eb3
    have h1 := h1 b3 eb3
    have h2 := h2 b3 eb3
    refine ⟨h1.1, ?_⟩
    have h1 := h1.2
    have h2 := h2.2
    intro I5 eI5
    have h1 := h1 I5 eI5
    have h2 := h2 I5 eI5
    intro I6 eI6
    have h1 := h1 I6 eI6
    have h2 := h2 I6 eI6
    exact hq _ _ h1 h2
set_option maxHeartbeats 4000000 in
theorem and_X4_findMain_L4 {Z : jZ} {Q1 Q2 Q3 : jI → jL → Prop} (hq : ∀ (x0 : jI) (x1 : jL), Q1 x0 x1 → Q2 x0 x1 → Q3 x0 x1) : ∀ (n m : Nat) (v0 : Nat) (v1 : Int32) (v2 : Int32) (v3 : Int32) (I : jI) (L : jL), f_X4_findMain_L4 Z Q1 n v0 v1 v2 v3 I L → f_X4_findMain_L4 Z Q2 m v0 v1 v2 v3 I L → f_X4_findMain_L4 Z Q3 n v0 v1 v2 v3 I L := by
  intro n
  induction n with
  | zero => intro m v0 v1 v2 v3 I L h1 h2; exact h1.elim
  | succ n ih =>
    intro m v0 v1 v2 v3 I L h1 h2
    cases m with
    | zero => exact h2.elim
    | succ m =>
      unfold f_X4_findMain_L4 at h1 h2 ⊢
      refine ⟨fun c => ?_, fun c => ?_⟩
      · have h1 := h1.1 c
        have h2 := h2.1 c
        intro b3 eb3
        have h1 := h1 b3 eb3
        have h2 := h2 b3 eb3
        refine ⟨h1.1, ?_⟩
        have h1 := h1.2
        have h2 := h2.2
        intro I5 eI5
        have h1 := h1 I5 eI5
        have h2 := h2 I5 eI5
        exact hq _ _ h1 h2
      · have h1 := h1.2 c
        have h2 := h2.2 c
        intro b6 eb6
        have h1 := h1 b6 eb6
        have h2 := h2 b6 eb6
        refine ⟨h1.1, ?_⟩
        have h1 := h1.2
        have h2 := h2.2
        intro b8 eb8
        have h1 := h1 b8 eb8
        have h2 := h2 b8 eb8
        refine ⟨h1.1, ?_⟩
        have h1 := h1.2
        have h2 := h2.2
        refine ⟨fun c => ?_, fun c => ?_⟩
        · have h1 := h1.1 c
          have h2 := h2.1 c
          unfold f_X4_findMain_b40 at h1 h2 ⊢
          intro x1 ex1
          have h1 := h1 x1 ex1
          have h2 := h2 x1 ex1
          exact ih _ _ _ _ _ _ _ h1 h2
        · have h1 := h1.2 c
          have h2 := h2.2 c
          unfold f_X4_findMain_b40 at h1 h2 ⊢
          intro x1 ex1
          have h1 := h1 x1 ex1
          have h2 := h2 x1 ex1
          exact ih _ _ _ _ _ _ _ h1 h2
set_option maxHeartbeats 4000000 in
theorem and_X4_findMain {v0 : Nat} {v1 : Int32} {Z : jZ} {I : jI} {L : jL} {Q1 Q2 Q3 : jI → jL → Prop} (h1 : f_X4_findMain v0 v1 Z I L Q1) (h2 : f_X4_findMain v0 v1 Z I L Q2) (hq : ∀ (x0 : jI) (x1 : jL), Q1 x0 x1 → Q2 x0 x1 → Q3 x0 x1) : f_X4_findMain v0 v1 Z I L Q3 := by
  unfold f_X4_findMain at h1 h2 ⊢
  obtain ⟨n1, h1⟩ := h1
  obtain ⟨n2, h2⟩ := h2
  exact ⟨n1, and_X4_findMain_L4  hq n1 n2 _ _ _ _ _ _ h1 h2⟩
set_option maxHeartbeats 4000000 in
theorem and_X4_move {v0 : Nat} {v1 : Int32} {v2 : Int32} {v3 : Int32} {v4 : Int32} {Z : jZ} {I : jI} {L : jL} {Q1 Q2 Q3 : jI → jL → Prop} (h1 : f_X4_move v0 v1 v2 v3 v4 Z I L Q1) (h2 : f_X4_move v0 v1 v2 v3 v4 Z I L Q2) (hq : ∀ (x0 : jI) (x1 : jL), Q1 x0 x1 → Q2 x0 x1 → Q3 x0 x1) : f_X4_move v0 v1 v2 v3 v4 Z I L Q3 := by
  unfold f_X4_move at h1 h2 ⊢
  refine ⟨fun c => ?_, fun c => ?_⟩
  · have h1 := h1.1 c
    have h2 := h2.1 c
    exact hq _ _ h1 h2
  · have h1 := h1.2 c
    have h2 := h2.2 c
    refine ⟨fun c => ?_, fun c => ?_⟩
    · have h1 := h1.1 c
      have h2 := h2.1 c
      exact hq _ _ h1 h2
    · have h1 := h1.2 c
      have h2 := h2.2 c
      refine and_X11_isFamily h1 h2 (fun r9 I5 L6 h1 h2 => ?_)
      refine ⟨fun c => ?_, fun c => ?_⟩
      · have h1 := h1.1 c
        have h2 := h2.1 c
        exact hq _ _ h1 h2
      · have h1 := h1.2 c
        have h2 := h2.2 c
        refine and_X11_isFamily h1 h2 (fun r17 I13 L14 h1 h2 => ?_)
        refine ⟨fun c => ?_, fun c => ?_⟩
        · have h1 := h1.1 c
          have h2 := h2.1 c
          exact hq _ _ h1 h2
        · have h1 := h1.2 c
          have h2 := h2.2 c
          intro b19 eb19
          have h1 := h1 b19 eb19
          have h2 := h2 b19 eb19
          refine ⟨h1.1, ?_⟩
          have h1 := h1.2
          have h2 := h2.2
          refine ⟨h1.1, ?_⟩
          have h1 := h1.2
          have h2 := h2.2
          intro I22 eI22
          have h1 := h1 I22 eI22
          have h2 := h2 I22 eI22
          intro b23 eb23
          have h1 := h1 b23 eb23
          have h2 := h2 b23 eb23
          refine ⟨h1.1, ?_⟩
          have h1 := h1.2
          have h2 := h2.2
          refine ⟨h1.1, ?_⟩
          have h1 := h1.2
          have h2 := h2.2
          intro I26 eI26
          have h1 := h1 I26 eI26
          have h2 := h2 I26 eI26
          refine and_X4_findMain h1 h2 (fun I29 L30 h1 h2 => ?_)
          exact hq _ _ h1 h2
set_option maxHeartbeats 4000000 in
theorem and_X11_sells {v0 : Nat} {v1 : Int32} {v2 : Int32} {v3 : Int32} {v4 : Int32} {v5 : Int32} {Z : jZ} {I : jI} {L : jL} {Q1 Q2 Q3 : Int32 → jI → jL → Prop} (h1 : f_X11_sells v0 v1 v2 v3 v4 v5 Z I L Q1) (h2 : f_X11_sells v0 v1 v2 v3 v4 v5 Z I L Q2) (hq : ∀ (x0 : Int32) (x1 : jI) (x2 : jL), Q1 x0 x1 x2 → Q2 x0 x1 x2 → Q3 x0 x1 x2) : f_X11_sells v0 v1 v2 v3 v4 v5 Z I L Q3 := by
  unfold f_X11_sells at h1 h2 ⊢
  intro b1 eb1
  have h1 := h1 b1 eb1
  have h2 := h2 b1 eb1
  refine and_X8_has h1 h2 (fun r8 I4 L5 h1 h2 => ?_)
  refine ⟨fun c => ?_, fun c => ?_⟩
  · have h1 := h1.1 c
    have h2 := h2.1 c
    exact hq _ _ _ h1 h2
  · have h1 := h1.2 c
    have h2 := h2.2 c
    refine and_X11_isFamily h1 h2 (fun r16 I12 L13 h1 h2 => ?_)
    refine ⟨fun c => ?_, fun c => ?_⟩
    · have h1 := h1.1 c
      have h2 := h2.1 c
      exact hq _ _ _ h1 h2
    · have h1 := h1.2 c
      have h2 := h2.2 c
      refine and_X11_isFamily h1 h2 (fun r24 I20 L21 h1 h2 => ?_)
      refine ⟨fun c => ?_, fun c => ?_⟩
      · have h1 := h1.1 c
        have h2 := h2.1 c
        exact hq _ _ _ h1 h2
      · have h1 := h1.2 c
        have h2 := h2.2 c
        refine ⟨fun c => ?_, fun c => ?_⟩
        · have h1 := h1.1 c
          have h2 := h2.1 c
          refine ⟨fun c => ?_, fun c => ?_⟩
          · have h1 := h1.1 c
            have h2 := h2.1 c
            exact hq _ _ _ h1 h2
          · have h1 := h1.2 c
            have h2 := h2.2 c
            refine ⟨fun c => ?_, fun c => ?_⟩
            · have h1 := h1.1 c
              have h2 := h2.1 c
              exact hq _ _ _ h1 h2
            · have h1 := h1.2 c
              have h2 := h2.2 c
              refine ⟨fun c => ?_, fun c => ?_⟩
              · have h1 := h1.1 c
                have h2 := h2.1 c
                intro b30 eb30
                have h1 := h1 b30 eb30
                have h2 := h2 b30 eb30
                intro b31 eb31
                have h1 := h1 b31 eb31
                have h2 := h2 b31 eb31
                refine and_X4_shareOf h1 h2 (fun r38 I34 L35 h1 h2 => ?_)
                refine ⟨h1.1, ?_⟩
                have h1 := h1.2
                have h2 := h2.2
                intro x40 ex40
                have h1 := h1 x40 ex40
                have h2 := h2 x40 ex40
                refine ⟨fun c => ?_, fun c => ?_⟩
                · have h1 := h1.1 c
                  have h2 := h2.1 c
                  intro b42 eb42
                  have h1 := h1 b42 eb42
                  have h2 := h2 b42 eb42
                  intro b43 eb43
                  have h1 := h1 b43 eb43
                  have h2 := h2 b43 eb43
                  refine and_X4_remember h1 h2 (fun I46 L47 h1 h2 => ?_)
                  intro b50 eb50
                  have h1 := h1 b50 eb50
                  have h2 := h2 b50 eb50
                  intro b51 eb51
                  have h1 := h1 b51 eb51
                  have h2 := h2 b51 eb51
                  refine and_X4_move h1 h2 (fun I54 L55 h1 h2 => ?_)
                  exact hq _ _ _ h1 h2
                · have h1 := h1.2 c
                  have h2 := h2.2 c
                  exact hq _ _ _ h1 h2
              · have h1 := h1.2 c
                have h2 := h2.2 c
                exact hq _ _ _ h1 h2
        · have h1 := h1.2 c
          have h2 := h2.2 c
          exact hq _ _ _ h1 h2
set_option maxHeartbeats 4000000 in
theorem and_X4_findMains_L2 {Z : jZ} {Q1 Q2 Q3 : jI → jL → Prop} (hq : ∀ (x0 : jI) (x1 : jL), Q1 x0 x1 → Q2 x0 x1 → Q3 x0 x1) : ∀ (n m : Nat) (v0 : Nat) (v1 : Int32) (I : jI) (L : jL), f_X4_findMains_L2 Z Q1 n v0 v1 I L → f_X4_findMains_L2 Z Q2 m v0 v1 I L → f_X4_findMains_L2 Z Q3 n v0 v1 I L := by
  intro n
  induction n with
  | zero => intro m v0 v1 I L h1 h2; exact h1.elim
  | succ n ih =>
    intro m v0 v1 I L h1 h2
    cases m with
    | zero => exact h2.elim
    | succ m =>
      unfold f_X4_findMains_L2 at h1 h2 ⊢
      refine ⟨fun c => ?_, fun c => ?_⟩
      · have h1 := h1.1 c
        have h2 := h2.1 c
        exact hq _ _ h1 h2
      · have h1 := h1.2 c
        have h2 := h2.2 c
        refine and_X4_findMain h1 h2 (fun I4 L5 h1 h2 => ?_)
        intro x8 ex8
        have h1 := h1 x8 ex8
        have h2 := h2 x8 ex8
        exact ih _ _ _ _ _ h1 h2
set_option maxHeartbeats 4000000 in
theorem and_X4_findMains {v0 : Nat} {Z : jZ} {I : jI} {L : jL} {Q1 Q2 Q3 : jI → jL → Prop} (h1 : f_X4_findMains v0 Z I L Q1) (h2 : f_X4_findMains v0 Z I L Q2) (hq : ∀ (x0 : jI) (x1 : jL), Q1 x0 x1 → Q2 x0 x1 → Q3 x0 x1) : f_X4_findMains v0 Z I L Q3 := by
  unfold f_X4_findMains at h1 h2 ⊢
  obtain ⟨n1, h1⟩ := h1
  obtain ⟨n2, h2⟩ := h2
  exact ⟨n1, and_X4_findMains_L2  hq n1 n2 _ _ _ _ h1 h2⟩
set_option maxHeartbeats 4000000 in
theorem and_X4_takeBack {v0 : Nat} {Z : jZ} {I : jI} {L : jL} {Q1 Q2 Q3 : Int32 → jI → jL → Prop} (h1 : f_X4_takeBack v0 Z I L Q1) (h2 : f_X4_takeBack v0 Z I L Q2) (hq : ∀ (x0 : Int32) (x1 : jI) (x2 : jL), Q1 x0 x1 x2 → Q2 x0 x1 x2 → Q3 x0 x1 x2) : f_X4_takeBack v0 Z I L Q3 := by
  unfold f_X4_takeBack at h1 h2 ⊢
  refine ⟨fun c => ?_, fun c => ?_⟩
  · have h1 := h1.1 c
    have h2 := h2.1 c
    intro I2 eI2
    have h1 := h1 I2 eI2
    have h2 := h2 I2 eI2
    intro x3 ex3
    have h1 := h1 x3 ex3
    have h2 := h2 x3 ex3
    intro b4 eb4
    have h1 := h1 b4 eb4
    have h2 := h2 b4 eb4
    intro b5 eb5
    have h1 := h1 b5 eb5
    have h2 := h2 b5 eb5
    refine ⟨h1.1, ?_⟩
    have h1 := h1.2
    have h2 := h2.2
    intro I7 eI7
    have h1 := h1 I7 eI7
    have h2 := h2 I7 eI7
    refine and_X4_findMains h1 h2 (fun I10 L11 h1 h2 => ?_)
    exact hq _ _ _ h1 h2
  · have h1 := h1.2 c
    have h2 := h2.2 c
    exact hq _ _ _ h1 h2
set_option maxHeartbeats 4000000 in
theorem and_X11_undo {v0 : Nat} {Z : jZ} {I : jI} {L : jL} {Q1 Q2 Q3 : Int32 → jI → jL → Prop} (h1 : f_X11_undo v0 Z I L Q1) (h2 : f_X11_undo v0 Z I L Q2) (hq : ∀ (x0 : Int32) (x1 : jI) (x2 : jL), Q1 x0 x1 x2 → Q2 x0 x1 x2 → Q3 x0 x1 x2) : f_X11_undo v0 Z I L Q3 := by
  unfold f_X11_undo at h1 h2 ⊢
  intro b1 eb1
  have h1 := h1 b1 eb1
  have h2 := h2 b1 eb1
  intro b2 eb2
  have h1 := h1 b2 eb2
  have h2 := h2 b2 eb2
  refine and_X4_takeBack h1 h2 (fun r9 I5 L6 h1 h2 => ?_)
  refine ⟨fun c => ?_, fun c => ?_⟩
  · have h1 := h1.1 c
    have h2 := h2.1 c
    exact hq _ _ _ h1 h2
  · have h1 := h1.2 c
    have h2 := h2.2 c
    intro b11 eb11
    have h1 := h1 b11 eb11
    have h2 := h2 b11 eb11
    intro b12 eb12
    have h1 := h1 b12 eb12
    have h2 := h2 b12 eb12
    exact hq _ _ _ h1 h2
set_option maxHeartbeats 4000000 in
theorem and_X4_sumOf_L4 {Z : jZ} {Q1 Q2 Q3 : Int32 → jI → jL → Prop} (hq : ∀ (x0 : Int32) (x1 : jI) (x2 : jL), Q1 x0 x1 x2 → Q2 x0 x1 x2 → Q3 x0 x1 x2) : ∀ (n m : Nat) (v0 : Nat) (v1 : Int32) (v2 : Int32) (v3 : Int32) (I : jI) (L : jL), f_X4_sumOf_L4 Z Q1 n v0 v1 v2 v3 I L → f_X4_sumOf_L4 Z Q2 m v0 v1 v2 v3 I L → f_X4_sumOf_L4 Z Q3 n v0 v1 v2 v3 I L := by
  intro n
  induction n with
  | zero => intro m v0 v1 v2 v3 I L h1 h2; exact h1.elim
  | succ n ih =>
    intro m v0 v1 v2 v3 I L h1 h2
    cases m with
    | zero => exact h2.elim
    | succ m =>
      unfold f_X4_sumOf_L4 at h1 h2 ⊢
      refine ⟨fun c => ?_, fun c => ?_⟩
      · have h1 := h1.1 c
        have h2 := h2.1 c
        exact hq _ _ _ h1 h2
      · have h1 := h1.2 c
        have h2 := h2.2 c
        refine and_X4_shareOf h1 h2 (fun r8 I4 L5 h1 h2 => ?_)
        intro x9 ex9
        have h1 := h1 x9 ex9
        have h2 := h2 x9 ex9
        intro x10 ex10
        have h1 := h1 x10 ex10
        have h2 := h2 x10 ex10
        exact ih _ _ _ _ _ _ _ h1 h2
set_option maxHeartbeats 4000000 in
theorem and_X4_sumOf {v0 : Nat} {v1 : Int32} {Z : jZ} {I : jI} {L : jL} {Q1 Q2 Q3 : Int32 → jI → jL → Prop} (h1 : f_X4_sumOf v0 v1 Z I L Q1) (h2 : f_X4_sumOf v0 v1 Z I L Q2) (hq : ∀ (x0 : Int32) (x1 : jI) (x2 : jL), Q1 x0 x1 x2 → Q2 x0 x1 x2 → Q3 x0 x1 x2) : f_X4_sumOf v0 v1 Z I L Q3 := by
  unfold f_X4_sumOf at h1 h2 ⊢
  obtain ⟨n1, h1⟩ := h1
  obtain ⟨n2, h2⟩ := h2
  exact ⟨n1, and_X4_sumOf_L4  hq n1 n2 _ _ _ _ _ _ h1 h2⟩
set_option maxHeartbeats 4000000 in
theorem and_J6_bitCount_0f7a4 {v0 : Int32} {Z : jZ} {I : jI} {L : jL} {Q1 Q2 Q3 : Int32 → jI → jL → Prop} (h1 : f_J6_bitCount_0f7a4 v0 Z I L Q1) (h2 : f_J6_bitCount_0f7a4 v0 Z I L Q2) (hq : ∀ (x0 : Int32) (x1 : jI) (x2 : jL), Q1 x0 x1 x2 → Q2 x0 x1 x2 → Q3 x0 x1 x2) : f_J6_bitCount_0f7a4 v0 Z I L Q3 := by
  unfold f_J6_bitCount_0f7a4 at h1 h2 ⊢
  intro x1 ex1
  have h1 := h1 x1 ex1
  have h2 := h2 x1 ex1
  intro x2 ex2
  have h1 := h1 x2 ex2
  have h2 := h2 x2 ex2
  intro x3 ex3
  have h1 := h1 x3 ex3
  have h2 := h2 x3 ex3
  intro x4 ex4
  have h1 := h1 x4 ex4
  have h2 := h2 x4 ex4
  intro x5 ex5
  have h1 := h1 x5 ex5
  have h2 := h2 x5 ex5
  exact hq _ _ _ h1 h2
set_option maxHeartbeats 4000000 in
theorem and_X4_inherit_L30 {Z : jZ} {Q1 Q2 Q3 : jI → jL → Prop} (hq : ∀ (x0 : jI) (x1 : jL), Q1 x0 x1 → Q2 x0 x1 → Q3 x0 x1) : ∀ (n m : Nat) (v0 : Nat) (v1 : Int32) (v2 : Int32) (v3 : Int32) (v4 : Int32) (v5 : Int32) (v6 : Int32) (v7 : Int32) (I : jI) (L : jL), f_X4_inherit_L30 Z Q1 n v0 v1 v2 v3 v4 v5 v6 v7 I L → f_X4_inherit_L30 Z Q2 m v0 v1 v2 v3 v4 v5 v6 v7 I L → f_X4_inherit_L30 Z Q3 n v0 v1 v2 v3 v4 v5 v6 v7 I L := by
  intro n
  induction n with
  | zero => intro m v0 v1 v2 v3 v4 v5 v6 v7 I L h1 h2; exact h1.elim
  | succ n ih =>
    intro m v0 v1 v2 v3 v4 v5 v6 v7 I L h1 h2
    cases m with
    | zero => exact h2.elim
    | succ m =>
      unfold f_X4_inherit_L30 at h1 h2 ⊢
      refine ⟨fun c => ?_, fun c => ?_⟩
      · have h1 := h1.1 c
        have h2 := h2.1 c
        exact hq _ _ h1 h2
      · have h1 := h1.2 c
        have h2 := h2.2 c
        refine ⟨fun c => ?_, fun c => ?_⟩
        · have h1 := h1.1 c
          have h2 := h2.1 c
          unfold f_X4_inherit_b73 at h1 h2 ⊢
          intro x1 ex1
          have h1 := h1 x1 ex1
          have h2 := h2 x1 ex1
          exact ih _ _ _ _ _ _ _ _ _ _ _ h1 h2
        · have h1 := h1.2 c
          have h2 := h2.2 c
          refine ⟨h1.1, ?_⟩
          have h1 := h1.2
          have h2 := h2.2
          refine ⟨fun c => ?_, fun c => ?_⟩
          · have h1 := h1.1 c
            have h2 := h2.1 c
            unfold f_X4_inherit_b66 at h1 h2 ⊢
            refine and_X4_move h1 h2 (fun I4 L5 h1 h2 => ?_)
            intro x8 ex8
            have h1 := h1 x8 ex8
            have h2 := h2 x8 ex8
            unfold f_X4_inherit_b73 at h1 h2 ⊢
            intro x1 ex1
            have h1 := h1 x1 ex1
            have h2 := h2 x1 ex1
            exact ih _ _ _ _ _ _ _ _ _ _ _ h1 h2
          · have h1 := h1.2 c
            have h2 := h2.2 c
            unfold f_X4_inherit_b66 at h1 h2 ⊢
            refine and_X4_move h1 h2 (fun I4 L5 h1 h2 => ?_)
            intro x8 ex8
            have h1 := h1 x8 ex8
            have h2 := h2 x8 ex8
            unfold f_X4_inherit_b73 at h1 h2 ⊢
            intro x1 ex1
            have h1 := h1 x1 ex1
            have h2 := h2 x1 ex1
            exact ih _ _ _ _ _ _ _ _ _ _ _ h1 h2
set_option maxHeartbeats 4000000 in
theorem and_X4_inherit {v0 : Nat} {v1 : Int32} {v2 : Int32} {v3 : Int32} {Z : jZ} {I : jI} {L : jL} {Q1 Q2 Q3 : jI → jL → Prop} (h1 : f_X4_inherit v0 v1 v2 v3 Z I L Q1) (h2 : f_X4_inherit v0 v1 v2 v3 Z I L Q2) (hq : ∀ (x0 : jI) (x1 : jL), Q1 x0 x1 → Q2 x0 x1 → Q3 x0 x1) : f_X4_inherit v0 v1 v2 v3 Z I L Q3 := by
  unfold f_X4_inherit at h1 h2 ⊢
  refine and_X4_shareOf h1 h2 (fun r19 I15 L16 h1 h2 => ?_)
  refine and_J6_bitCount_0f7a4 h1 h2 (fun r26 I22 L23 h1 h2 => ?_)
  refine ⟨fun c => ?_, fun c => ?_⟩
  · have h1 := h1.1 c
    have h2 := h2.1 c
    refine ⟨h1.1, ?_⟩
    have h1 := h1.2
    have h2 := h2.2
    intro x29 ex29
    have h1 := h1 x29 ex29
    have h2 := h2 x29 ex29
    obtain ⟨n1, h1⟩ := h1
    obtain ⟨n2, h2⟩ := h2
    exact ⟨n1, and_X4_inherit_L30  hq n1 n2 _ _ _ _ _ _ _ _ _ _ h1 h2⟩
  · have h1 := h1.2 c
    have h2 := h2.2 c
    exact hq _ _ h1 h2
set_option maxHeartbeats 4000000 in
theorem and_X11_dies_L58 {Z : jZ} {Q1 Q2 Q3 : Int32 → jI → jL → Prop} (hq : ∀ (x0 : Int32) (x1 : jI) (x2 : jL), Q1 x0 x1 x2 → Q2 x0 x1 x2 → Q3 x0 x1 x2) : ∀ (n m : Nat) (v0 : Nat) (v1 : Int32) (v2 : Int32) (v3 : Int32) (v4 : Int32) (I : jI) (L : jL), f_X11_dies_L58 Z Q1 n v0 v1 v2 v3 v4 I L → f_X11_dies_L58 Z Q2 m v0 v1 v2 v3 v4 I L → f_X11_dies_L58 Z Q3 n v0 v1 v2 v3 v4 I L := by
  intro n
  induction n with
  | zero => intro m v0 v1 v2 v3 v4 I L h1 h2; exact h1.elim
  | succ n ih =>
    intro m v0 v1 v2 v3 v4 I L h1 h2
    cases m with
    | zero => exact h2.elim
    | succ m =>
      unfold f_X11_dies_L58 at h1 h2 ⊢
      intro b1 eb1
      have h1 := h1 b1 eb1
      have h2 := h2 b1 eb1
      refine ⟨fun c => ?_, fun c => ?_⟩
      · have h1 := h1.1 c
        have h2 := h2.1 c
        exact hq _ _ _ h1 h2
      · have h1 := h1.2 c
        have h2 := h2.2 c
        intro b3 eb3
        have h1 := h1 b3 eb3
        have h2 := h2 b3 eb3
        intro b4 eb4
        have h1 := h1 b4 eb4
        have h2 := h2 b4 eb4
        refine and_X4_inherit h1 h2 (fun I7 L8 h1 h2 => ?_)
        intro x11 ex11
        have h1 := h1 x11 ex11
        have h2 := h2 x11 ex11
        exact ih _ _ _ _ _ _ _ _ h1 h2
set_option maxHeartbeats 4000000 in
theorem and_X11_dies {v0 : Nat} {v1 : Int32} {v2 : Int32} {Z : jZ} {I : jI} {L : jL} {Q1 Q2 Q3 : Int32 → jI → jL → Prop} (h1 : f_X11_dies v0 v1 v2 Z I L Q1) (h2 : f_X11_dies v0 v1 v2 Z I L Q2) (hq : ∀ (x0 : Int32) (x1 : jI) (x2 : jL), Q1 x0 x1 x2 → Q2 x0 x1 x2 → Q3 x0 x1 x2) : f_X11_dies v0 v1 v2 Z I L Q3 := by
  unfold f_X11_dies at h1 h2 ⊢
  refine and_X11_isFamily h1 h2 (fun r18 I14 L15 h1 h2 => ?_)
  refine ⟨fun c => ?_, fun c => ?_⟩
  · have h1 := h1.1 c
    have h2 := h2.1 c
    exact hq _ _ _ h1 h2
  · have h1 := h1.2 c
    have h2 := h2.2 c
    refine ⟨fun c => ?_, fun c => ?_⟩
    · have h1 := h1.1 c
      have h2 := h2.1 c
      exact hq _ _ _ h1 h2
    · have h1 := h1.2 c
      have h2 := h2.2 c
      refine ⟨fun c => ?_, fun c => ?_⟩
      · have h1 := h1.1 c
        have h2 := h2.1 c
        exact hq _ _ _ h1 h2
      · have h1 := h1.2 c
        have h2 := h2.2 c
        refine ⟨fun c => ?_, fun c => ?_⟩
        · have h1 := h1.1 c
          have h2 := h2.1 c
          intro b23 eb23
          have h1 := h1 b23 eb23
          have h2 := h2 b23 eb23
          intro b24 eb24
          have h1 := h1 b24 eb24
          have h2 := h2 b24 eb24
          refine and_X4_sumOf h1 h2 (fun r31 I27 L28 h1 h2 => ?_)
          refine ⟨fun c => ?_, fun c => ?_⟩
          · have h1 := h1.1 c
            have h2 := h2.1 c
            exact hq _ _ _ h1 h2
          · have h1 := h1.2 c
            have h2 := h2.2 c
            intro b33 eb33
            have h1 := h1 b33 eb33
            have h2 := h2 b33 eb33
            intro b34 eb34
            have h1 := h1 b34 eb34
            have h2 := h2 b34 eb34
            refine and_X4_remember h1 h2 (fun I37 L38 h1 h2 => ?_)
            obtain ⟨n1, h1⟩ := h1
            obtain ⟨n2, h2⟩ := h2
            exact ⟨n1, and_X11_dies_L58  hq n1 n2 _ _ _ _ _ _ _ h1 h2⟩
        · have h1 := h1.2 c
          have h2 := h2.2 c
          exact hq _ _ _ h1 h2
set_option maxHeartbeats 4000000 in
theorem and_X4_restore {v0 : Nat} {v1 : Nat} {Z : jZ} {I : jI} {L : jL} {Q1 Q2 Q3 : jI → jL → Prop} (h1 : f_X4_restore v0 v1 Z I L Q1) (h2 : f_X4_restore v0 v1 Z I L Q2) (hq : ∀ (x0 : jI) (x1 : jL), Q1 x0 x1 → Q2 x0 x1 → Q3 x0 x1) : f_X4_restore v0 v1 Z I L Q3 := by
  unfold f_X4_restore at h1 h2 ⊢
  intro b1 eb1
  have h1 := h1 b1 eb1
  have h2 := h2 b1 eb1
  refine ⟨h1.1, ?_⟩
  have h1 := h1.2
  have h2 := h2.2
  intro I3 eI3
  have h1 := h1 I3 eI3
  have h2 := h2 I3 eI3
  intro I4 eI4
  have h1 := h1 I4 eI4
  have h2 := h2 I4 eI4
  refine and_X4_findMains h1 h2 (fun I7 L8 h1 h2 => ?_)
  exact hq _ _ h1 h2
set_option maxHeartbeats 4000000 in
theorem and_X2_getStairs {v0 : Nat} {v1 : Nat} {Z : jZ} {I : jI} {L : jL} {Q1 Q2 Q3 : jI → jL → Prop} (h1 : f_X2_getStairs v0 v1 Z I L Q1) (h2 : f_X2_getStairs v0 v1 Z I L Q2) (hq : ∀ (x0 : jI) (x1 : jL), Q1 x0 x1 → Q2 x0 x1 → Q3 x0 x1) : f_X2_getStairs v0 v1 Z I L Q3 := by
  unfold f_X2_getStairs at h1 h2 ⊢
  intro b1 eb1
  have h1 := h1 b1 eb1
  have h2 := h2 b1 eb1
  intro b2 eb2
  have h1 := h1 b2 eb2
  have h2 := h2 b2 eb2
  refine ⟨h1.1, ?_⟩
  have h1 := h1.2
  have h2 := h2.2
  intro I4 eI4
  have h1 := h1 I4 eI4
  have h2 := h2 I4 eI4
  intro b5 eb5
  have h1 := h1 b5 eb5
  have h2 := h2 b5 eb5
  intro b6 eb6
  have h1 := h1 b6 eb6
  have h2 := h2 b6 eb6
  refine ⟨h1.1, ?_⟩
  have h1 := h1.2
  have h2 := h2.2
  intro I8 eI8
  have h1 := h1 I8 eI8
  have h2 := h2 I8 eI8
  intro b9 eb9
  have h1 := h1 b9 eb9
  have h2 := h2 b9 eb9
  intro b10 eb10
  have h1 := h1 b10 eb10
  have h2 := h2 b10 eb10
  refine and_X4_restore h1 h2 (fun I13 L14 h1 h2 => ?_)
  exact hq _ _ h1 h2
set_option maxHeartbeats 4000000 in
theorem and_X11_find {v0 : Nat} {v1 : Int32} {Z : jZ} {I : jI} {L : jL} {Q1 Q2 Q3 : Option Nat → jI → jL → Prop} (h1 : f_X11_find v0 v1 Z I L Q1) (h2 : f_X11_find v0 v1 Z I L Q2) (hq : ∀ (x0 : Option Nat) (x1 : jI) (x2 : jL), Q1 x0 x1 x2 → Q2 x0 x1 x2 → Q3 x0 x1 x2) : f_X11_find v0 v1 Z I L Q3 := by
  unfold f_X11_find at h1 h2 ⊢
  refine ⟨fun c => ?_, fun c => ?_⟩
  · have h1 := h1.1 c
    have h2 := h2.1 c
    unfold f_X11_find_b30 at h1 h2 ⊢
    exact hq _ _ _ h1 h2
  · have h1 := h1.2 c
    have h2 := h2.2 c
    refine ⟨fun c => ?_, fun c => ?_⟩
    · have h1 := h1.1 c
      have h2 := h2.1 c
      unfold f_X11_find_b30 at h1 h2 ⊢
      exact hq _ _ _ h1 h2
    · have h1 := h1.2 c
      have h2 := h2.2 c
      intro b3 eb3
      have h1 := h1 b3 eb3
      have h2 := h2 b3 eb3
      refine ⟨fun c => ?_, fun c => ?_⟩
      · have h1 := h1.1 c
        have h2 := h2.1 c
        unfold f_X11_find_b30 at h1 h2 ⊢
        exact hq _ _ _ h1 h2
      · have h1 := h1.2 c
        have h2 := h2.2 c
        intro b5 eb5
        have h1 := h1 b5 eb5
        have h2 := h2 b5 eb5
        refine ⟨h1.1, ?_⟩
        have h1 := h1.2
        have h2 := h2.2
        refine ⟨fun c => ?_, fun b7 c => ?_⟩
        · have h1 := h1.1 c
          have h2 := h2.1 c
          exact hq _ _ _ h1 h2
        · have h1 := h1.2 b7 c
          have h2 := h2.2 b7 c
          exact hq _ _ _ h1 h2
set_option maxHeartbeats 4000000 in
theorem and_X2_getPilgrim {v0 : Nat} {v1 : Int32} {v2 : Nat} {Z : jZ} {I : jI} {L : jL} {Q1 Q2 Q3 : jI → jL → Prop} (h1 : f_X2_getPilgrim v0 v1 v2 Z I L Q1) (h2 : f_X2_getPilgrim v0 v1 v2 Z I L Q2) (hq : ∀ (x0 : jI) (x1 : jL), Q1 x0 x1 → Q2 x0 x1 → Q3 x0 x1) : f_X2_getPilgrim v0 v1 v2 Z I L Q3 := by
  unfold f_X2_getPilgrim at h1 h2 ⊢
  refine ⟨fun c => ?_, fun c => ?_⟩
  · have h1 := h1.1 c
    have h2 := h2.1 c
    exact hq _ _ h1 h2
  · have h1 := h1.2 c
    have h2 := h2.2 c
    refine ⟨fun c => ?_, fun c => ?_⟩
    · have h1 := h1.1 c
      have h2 := h2.1 c
      exact hq _ _ h1 h2
    · have h1 := h1.2 c
      have h2 := h2.2 c
      intro b3 eb3
      have h1 := h1 b3 eb3
      have h2 := h2 b3 eb3
      refine ⟨h1.1, ?_⟩
      have h1 := h1.2
      have h2 := h2.2
      intro I5 eI5
      have h1 := h1 I5 eI5
      have h2 := h2 I5 eI5
      intro b6 eb6
      have h1 := h1 b6 eb6
      have h2 := h2 b6 eb6
      refine ⟨h1.1, ?_⟩
      have h1 := h1.2
      have h2 := h2.2
      intro I8 eI8
      have h1 := h1 I8 eI8
      have h2 := h2 I8 eI8
      intro b9 eb9
      have h1 := h1 b9 eb9
      have h2 := h2 b9 eb9
      refine ⟨h1.1, ?_⟩
      have h1 := h1.2
      have h2 := h2.2
      intro I11 eI11
      have h1 := h1 I11 eI11
      have h2 := h2 I11 eI11
      exact hq _ _ h1 h2
set_option maxHeartbeats 4000000 in
theorem and_X11_again_L59 {Z : jZ} {Q1 Q2 Q3 : Int32 → jI → jL → Prop} (hq : ∀ (x0 : Int32) (x1 : jI) (x2 : jL), Q1 x0 x1 x2 → Q2 x0 x1 x2 → Q3 x0 x1 x2) : ∀ (n m : Nat) (v0 : Nat) (v2 : Nat) (v3 : Int32) (I : jI) (L : jL), f_X11_again_L59 Z Q1 n v0 v2 v3 I L → f_X11_again_L59 Z Q2 m v0 v2 v3 I L → f_X11_again_L59 Z Q3 n v0 v2 v3 I L := by
  intro n
  induction n with
  | zero => intro m v0 v2 v3 I L h1 h2; exact h1.elim
  | succ n ih =>
    intro m v0 v2 v3 I L h1 h2
    cases m with
    | zero => exact h2.elim
    | succ m =>
      unfold f_X11_again_L59 at h1 h2 ⊢
      refine ⟨fun c => ?_, fun c => ?_⟩
      · have h1 := h1.1 c
        have h2 := h2.1 c
        exact hq _ _ _ h1 h2
      · have h1 := h1.2 c
        have h2 := h2.2 c
        refine ⟨fun c => ?_, fun c => ?_⟩
        · have h1 := h1.1 c
          have h2 := h2.1 c
          exact hq _ _ _ h1 h2
        · have h1 := h1.2 c
          have h2 := h2.2 c
          refine and_X11_find h1 h2 (fun r10 I6 L7 h1 h2 => ?_)
          refine ⟨fun c => ?_, fun b11 c => ?_⟩
          · have h1 := h1.1 c
            have h2 := h2.1 c
            unfold f_X11_again_b94 at h1 h2 ⊢
            intro x1 ex1
            have h1 := h1 x1 ex1
            have h2 := h2 x1 ex1
            exact ih _ _ _ _ _ _ h1 h2
          · have h1 := h1.2 b11 c
            have h2 := h2.2 b11 c
            refine and_X2_getPilgrim h1 h2 (fun I15 L16 h1 h2 => ?_)
            unfold f_X11_again_b94 at h1 h2 ⊢
            intro x1 ex1
            have h1 := h1 x1 ex1
            have h2 := h2 x1 ex1
            exact ih _ _ _ _ _ _ h1 h2
set_option maxHeartbeats 4000000 in
theorem and_X11_again {v0 : Nat} {v1 : Int32} {Z : jZ} {I : jI} {L : jL} {Q1 Q2 Q3 : Int32 → jI → jL → Prop} (h1 : f_X11_again v0 v1 Z I L Q1) (h2 : f_X11_again v0 v1 Z I L Q2) (hq : ∀ (x0 : Int32) (x1 : jI) (x2 : jL), Q1 x0 x1 x2 → Q2 x0 x1 x2 → Q3 x0 x1 x2) : f_X11_again v0 v1 Z I L Q3 := by
  unfold f_X11_again at h1 h2 ⊢
  refine ⟨fun c => ?_, fun c => ?_⟩
  · have h1 := h1.1 c
    have h2 := h2.1 c
    exact hq _ _ _ h1 h2
  · have h1 := h1.2 c
    have h2 := h2.2 c
    intro b20 eb20
    have h1 := h1 b20 eb20
    have h2 := h2 b20 eb20
    refine ⟨fun c => ?_, fun c => ?_⟩
    · have h1 := h1.1 c
      have h2 := h2.1 c
      exact hq _ _ _ h1 h2
    · have h1 := h1.2 c
      have h2 := h2.2 c
      intro b22 eb22
      have h1 := h1 b22 eb22
      have h2 := h2 b22 eb22
      refine ⟨h1.1, ?_⟩
      have h1 := h1.2
      have h2 := h2.2
      intro b24 eb24
      have h1 := h1 b24 eb24
      have h2 := h2 b24 eb24
      refine ⟨fun c => ?_, fun c => ?_⟩
      · have h1 := h1.1 c
        have h2 := h2.1 c
        intro b26 eb26
        have h1 := h1 b26 eb26
        have h2 := h2 b26 eb26
        refine ⟨h1.1, ?_⟩
        have h1 := h1.2
        have h2 := h2.2
        intro b28 eb28
        have h1 := h1 b28 eb28
        have h2 := h2 b28 eb28
        intro b29 eb29
        have h1 := h1 b29 eb29
        have h2 := h2 b29 eb29
        refine and_X2_getStairs h1 h2 (fun I32 L33 h1 h2 => ?_)
        intro b36 eb36
        have h1 := h1 b36 eb36
        have h2 := h2 b36 eb36
        intro b37 eb37
        have h1 := h1 b37 eb37
        have h2 := h2 b37 eb37
        refine ⟨h1.1, ?_⟩
        have h1 := h1.2
        have h2 := h2.2
        intro I39 eI39
        have h1 := h1 I39 eI39
        have h2 := h2 I39 eI39
        obtain ⟨n1, h1⟩ := h1
        obtain ⟨n2, h2⟩ := h2
        exact ⟨n1, and_X11_again_L59  hq n1 n2 _ _ _ _ _ h1 h2⟩
      · have h1 := h1.2 c
        have h2 := h2.2 c
        exact hq _ _ _ h1 h2
set_option maxHeartbeats 4000000 in
theorem and_X9_fail {v0 : Nat} {v1 : Int32} {Z : jZ} {I : jI} {L : jL} {Q1 Q2 Q3 : Int32 → jI → jL → Prop} (h1 : f_X9_fail v0 v1 Z I L Q1) (h2 : f_X9_fail v0 v1 Z I L Q2) (hq : ∀ (x0 : Int32) (x1 : jI) (x2 : jL), Q1 x0 x1 x2 → Q2 x0 x1 x2 → Q3 x0 x1 x2) : f_X9_fail v0 v1 Z I L Q3 := by
  unfold f_X9_fail at h1 h2 ⊢
  intro I1 eI1
  have h1 := h1 I1 eI1
  have h2 := h2 I1 eI1
  exact hq _ _ _ h1 h2
set_option maxHeartbeats 4000000 in
theorem and_X10_signAt {v0 : Nat} {v1 : Int32} {Z : jZ} {I : jI} {L : jL} {Q1 Q2 Q3 : Int32 → jI → jL → Prop} (h1 : f_X10_signAt v0 v1 Z I L Q1) (h2 : f_X10_signAt v0 v1 Z I L Q2) (hq : ∀ (x0 : Int32) (x1 : jI) (x2 : jL), Q1 x0 x1 x2 → Q2 x0 x1 x2 → Q3 x0 x1 x2) : f_X10_signAt v0 v1 Z I L Q3 := by
  unfold f_X10_signAt at h1 h2 ⊢
  refine ⟨fun c => ?_, fun c => ?_⟩
  · have h1 := h1.1 c
    have h2 := h2.1 c
    exact hq _ _ _ h1 h2
  · have h1 := h1.2 c
    have h2 := h2.2 c
    refine ⟨fun c => ?_, fun c => ?_⟩
    · have h1 := h1.1 c
      have h2 := h2.1 c
      exact hq _ _ _ h1 h2
    · have h1 := h1.2 c
      have h2 := h2.2 c
      refine ⟨fun c => ?_, fun c => ?_⟩
      · have h1 := h1.1 c
        have h2 := h2.1 c
        exact hq _ _ _ h1 h2
      · have h1 := h1.2 c
        have h2 := h2.2 c
        intro b4 eb4
        have h1 := h1 b4 eb4
        have h2 := h2 b4 eb4
        refine ⟨h1.1, ?_⟩
        have h1 := h1.2
        have h2 := h2.2
        exact hq _ _ _ h1 h2
set_option maxHeartbeats 4000000 in
theorem and_X9_look {v0 : Nat} {v1 : Nat} {Z : jZ} {I : jI} {L : jL} {Q1 Q2 Q3 : Int32 → jI → jL → Prop} (h1 : f_X9_look v0 v1 Z I L Q1) (h2 : f_X9_look v0 v1 Z I L Q2) (hq : ∀ (x0 : Int32) (x1 : jI) (x2 : jL), Q1 x0 x1 x2 → Q2 x0 x1 x2 → Q3 x0 x1 x2) : f_X9_look v0 v1 Z I L Q3 := by
  unfold f_X9_look at h1 h2 ⊢
  refine ⟨fun c => ?_, fun c => ?_⟩
  · have h1 := h1.1 c
    have h2 := h2.1 c
    exact hq _ _ _ h1 h2
  · have h1 := h1.2 c
    have h2 := h2.2 c
    refine and_X10_signAt h1 h2 (fun r8 I4 L5 h1 h2 => ?_)
    exact hq _ _ _ h1 h2
set_option maxHeartbeats 4000000 in
theorem and_X10_isDigit {v0 : Int32} {Z : jZ} {I : jI} {L : jL} {Q1 Q2 Q3 : Int32 → jI → jL → Prop} (h1 : f_X10_isDigit v0 Z I L Q1) (h2 : f_X10_isDigit v0 Z I L Q2) (hq : ∀ (x0 : Int32) (x1 : jI) (x2 : jL), Q1 x0 x1 x2 → Q2 x0 x1 x2 → Q3 x0 x1 x2) : f_X10_isDigit v0 Z I L Q3 := by
  unfold f_X10_isDigit at h1 h2 ⊢
  refine ⟨fun c => ?_, fun c => ?_⟩
  · have h1 := h1.1 c
    have h2 := h2.1 c
    exact hq _ _ _ h1 h2
  · have h1 := h1.2 c
    have h2 := h2.2 c
    refine ⟨fun c => ?_, fun c => ?_⟩
    · have h1 := h1.1 c
      have h2 := h2.1 c
      exact hq _ _ _ h1 h2
    · have h1 := h1.2 c
      have h2 := h2.2 c
      exact hq _ _ _ h1 h2
set_option maxHeartbeats 4000000 in
theorem and_X9_readNumber_L6 {Z : jZ} {Q1 Q2 Q3 : Int32 → jI → jL → Prop} (hq : ∀ (x0 : Int32) (x1 : jI) (x2 : jL), Q1 x0 x1 x2 → Q2 x0 x1 x2 → Q3 x0 x1 x2) : ∀ (n m : Nat) (v0 : Nat) (v1 : Nat) (v2 : Int32) (v3 : Int32) (v4 : Int32) (v5 : Int32) (I : jI) (L : jL), f_X9_readNumber_L6 Z Q1 n v0 v1 v2 v3 v4 v5 I L → f_X9_readNumber_L6 Z Q2 m v0 v1 v2 v3 v4 v5 I L → f_X9_readNumber_L6 Z Q3 n v0 v1 v2 v3 v4 v5 I L := by
  intro n
  induction n with
  | zero => intro m v0 v1 v2 v3 v4 v5 I L h1 h2; exact h1.elim
  | succ n ih =>
    intro m v0 v1 v2 v3 v4 v5 I L h1 h2
    cases m with
    | zero => exact h2.elim
    | succ m =>
      unfold f_X9_readNumber_L6 at h1 h2 ⊢
      refine ⟨fun c => ?_, fun c => ?_⟩
      · have h1 := h1.1 c
        have h2 := h2.1 c
        unfold f_X9_readNumber_b55 at h1 h2 ⊢
        refine ⟨fun c => ?_, fun c => ?_⟩
        · have h1 := h1.1 c
          have h2 := h2.1 c
          unfold f_X9_readNumber_b76 at h1 h2 ⊢
          unfold f_X9_readNumber_b77 at h1 h2 ⊢
          refine ⟨fun c => ?_, fun c => ?_⟩
          · have h1 := h1.1 c
            have h2 := h2.1 c
            unfold f_X9_readNumber_b107 at h1 h2 ⊢
            refine ⟨fun c => ?_, fun c => ?_⟩
            · have h1 := h1.1 c
              have h2 := h2.1 c
              exact hq _ _ _ h1 h2
            · have h1 := h1.2 c
              have h2 := h2.2 c
              exact hq _ _ _ h1 h2
          · have h1 := h1.2 c
            have h2 := h2.2 c
            refine ⟨fun c => ?_, fun c => ?_⟩
            · have h1 := h1.1 c
              have h2 := h2.1 c
              unfold f_X9_readNumber_b103 at h1 h2 ⊢
              refine and_X9_fail h1 h2 (fun r8 I4 L5 h1 h2 => ?_)
              unfold f_X9_readNumber_b107 at h1 h2 ⊢
              refine ⟨fun c => ?_, fun c => ?_⟩
              · have h1 := h1.1 c
                have h2 := h2.1 c
                exact hq _ _ _ h1 h2
              · have h1 := h1.2 c
                have h2 := h2.2 c
                exact hq _ _ _ h1 h2
            · have h1 := h1.2 c
              have h2 := h2.2 c
              unfold f_X9_readNumber_b103 at h1 h2 ⊢
              refine and_X9_fail h1 h2 (fun r8 I4 L5 h1 h2 => ?_)
              unfold f_X9_readNumber_b107 at h1 h2 ⊢
              refine ⟨fun c => ?_, fun c => ?_⟩
              · have h1 := h1.1 c
                have h2 := h2.1 c
                exact hq _ _ _ h1 h2
              · have h1 := h1.2 c
                have h2 := h2.2 c
                exact hq _ _ _ h1 h2
        · have h1 := h1.2 c
          have h2 := h2.2 c
          refine ⟨fun c => ?_, fun c => ?_⟩
          · have h1 := h1.1 c
            have h2 := h2.1 c
            unfold f_X9_readNumber_b76 at h1 h2 ⊢
            unfold f_X9_readNumber_b77 at h1 h2 ⊢
            refine ⟨fun c => ?_, fun c => ?_⟩
            · have h1 := h1.1 c
              have h2 := h2.1 c
              unfold f_X9_readNumber_b107 at h1 h2 ⊢
              refine ⟨fun c => ?_, fun c => ?_⟩
              · have h1 := h1.1 c
                have h2 := h2.1 c
                exact hq _ _ _ h1 h2
              · have h1 := h1.2 c
                have h2 := h2.2 c
                exact hq _ _ _ h1 h2
            · have h1 := h1.2 c
              have h2 := h2.2 c
              refine ⟨fun c => ?_, fun c => ?_⟩
              · have h1 := h1.1 c
                have h2 := h2.1 c
                unfold f_X9_readNumber_b103 at h1 h2 ⊢
                refine and_X9_fail h1 h2 (fun r8 I4 L5 h1 h2 => ?_)
                unfold f_X9_readNumber_b107 at h1 h2 ⊢
                refine ⟨fun c => ?_, fun c => ?_⟩
                · have h1 := h1.1 c
                  have h2 := h2.1 c
                  exact hq _ _ _ h1 h2
                · have h1 := h1.2 c
                  have h2 := h2.2 c
                  exact hq _ _ _ h1 h2
              · have h1 := h1.2 c
                have h2 := h2.2 c
                unfold f_X9_readNumber_b103 at h1 h2 ⊢
                refine and_X9_fail h1 h2 (fun r8 I4 L5 h1 h2 => ?_)
                unfold f_X9_readNumber_b107 at h1 h2 ⊢
                refine ⟨fun c => ?_, fun c => ?_⟩
                · have h1 := h1.1 c
                  have h2 := h2.1 c
                  exact hq _ _ _ h1 h2
                · have h1 := h1.2 c
                  have h2 := h2.2 c
                  exact hq _ _ _ h1 h2
          · have h1 := h1.2 c
            have h2 := h2.2 c
            refine ⟨fun c => ?_, fun c => ?_⟩
            · have h1 := h1.1 c
              have h2 := h2.1 c
              unfold f_X9_readNumber_b76 at h1 h2 ⊢
              unfold f_X9_readNumber_b77 at h1 h2 ⊢
              refine ⟨fun c => ?_, fun c => ?_⟩
              · have h1 := h1.1 c
                have h2 := h2.1 c
                unfold f_X9_readNumber_b107 at h1 h2 ⊢
                refine ⟨fun c => ?_, fun c => ?_⟩
                · have h1 := h1.1 c
                  have h2 := h2.1 c
                  exact hq _ _ _ h1 h2
                · have h1 := h1.2 c
                  have h2 := h2.2 c
                  exact hq _ _ _ h1 h2
              · have h1 := h1.2 c
                have h2 := h2.2 c
                refine ⟨fun c => ?_, fun c => ?_⟩
                · have h1 := h1.1 c
                  have h2 := h2.1 c
                  unfold f_X9_readNumber_b103 at h1 h2 ⊢
                  refine and_X9_fail h1 h2 (fun r8 I4 L5 h1 h2 => ?_)
                  unfold f_X9_readNumber_b107 at h1 h2 ⊢
                  refine ⟨fun c => ?_, fun c => ?_⟩
                  · have h1 := h1.1 c
                    have h2 := h2.1 c
                    exact hq _ _ _ h1 h2
                  · have h1 := h1.2 c
                    have h2 := h2.2 c
                    exact hq _ _ _ h1 h2
                · have h1 := h1.2 c
                  have h2 := h2.2 c
                  unfold f_X9_readNumber_b103 at h1 h2 ⊢
                  refine and_X9_fail h1 h2 (fun r8 I4 L5 h1 h2 => ?_)
                  unfold f_X9_readNumber_b107 at h1 h2 ⊢
                  refine ⟨fun c => ?_, fun c => ?_⟩
                  · have h1 := h1.1 c
                    have h2 := h2.1 c
                    exact hq _ _ _ h1 h2
                  · have h1 := h1.2 c
                    have h2 := h2.2 c
                    exact hq _ _ _ h1 h2
            · have h1 := h1.2 c
              have h2 := h2.2 c
              unfold f_X9_readNumber_b77 at h1 h2 ⊢
              refine ⟨fun c => ?_, fun c => ?_⟩
              · have h1 := h1.1 c
                have h2 := h2.1 c
                unfold f_X9_readNumber_b107 at h1 h2 ⊢
                refine ⟨fun c => ?_, fun c => ?_⟩
                · have h1 := h1.1 c
                  have h2 := h2.1 c
                  exact hq _ _ _ h1 h2
                · have h1 := h1.2 c
                  have h2 := h2.2 c
                  exact hq _ _ _ h1 h2
              · have h1 := h1.2 c
                have h2 := h2.2 c
                refine ⟨fun c => ?_, fun c => ?_⟩
                · have h1 := h1.1 c
                  have h2 := h2.1 c
                  unfold f_X9_readNumber_b103 at h1 h2 ⊢
                  refine and_X9_fail h1 h2 (fun r8 I4 L5 h1 h2 => ?_)
                  unfold f_X9_readNumber_b107 at h1 h2 ⊢
                  refine ⟨fun c => ?_, fun c => ?_⟩
                  · have h1 := h1.1 c
                    have h2 := h2.1 c
                    exact hq _ _ _ h1 h2
                  · have h1 := h1.2 c
                    have h2 := h2.2 c
                    exact hq _ _ _ h1 h2
                · have h1 := h1.2 c
                  have h2 := h2.2 c
                  unfold f_X9_readNumber_b103 at h1 h2 ⊢
                  refine and_X9_fail h1 h2 (fun r8 I4 L5 h1 h2 => ?_)
                  unfold f_X9_readNumber_b107 at h1 h2 ⊢
                  refine ⟨fun c => ?_, fun c => ?_⟩
                  · have h1 := h1.1 c
                    have h2 := h2.1 c
                    exact hq _ _ _ h1 h2
                  · have h1 := h1.2 c
                    have h2 := h2.2 c
                    exact hq _ _ _ h1 h2
      · have h1 := h1.2 c
        have h2 := h2.2 c
        refine and_X9_look h1 h2 (fun r21 I17 L18 h1 h2 => ?_)
        refine and_X10_isDigit h1 h2 (fun r28 I24 L25 h1 h2 => ?_)
        refine ⟨fun c => ?_, fun c => ?_⟩
        · have h1 := h1.1 c
          have h2 := h2.1 c
          unfold f_X9_readNumber_b55 at h1 h2 ⊢
          refine ⟨fun c => ?_, fun c => ?_⟩
          · have h1 := h1.1 c
            have h2 := h2.1 c
            unfold f_X9_readNumber_b76 at h1 h2 ⊢
            unfold f_X9_readNumber_b77 at h1 h2 ⊢
            refine ⟨fun c => ?_, fun c => ?_⟩
            · have h1 := h1.1 c
              have h2 := h2.1 c
              unfold f_X9_readNumber_b107 at h1 h2 ⊢
              refine ⟨fun c => ?_, fun c => ?_⟩
              · have h1 := h1.1 c
                have h2 := h2.1 c
                exact hq _ _ _ h1 h2
              · have h1 := h1.2 c
                have h2 := h2.2 c
                exact hq _ _ _ h1 h2
            · have h1 := h1.2 c
              have h2 := h2.2 c
              refine ⟨fun c => ?_, fun c => ?_⟩
              · have h1 := h1.1 c
                have h2 := h2.1 c
                unfold f_X9_readNumber_b103 at h1 h2 ⊢
                refine and_X9_fail h1 h2 (fun r8 I4 L5 h1 h2 => ?_)
                unfold f_X9_readNumber_b107 at h1 h2 ⊢
                refine ⟨fun c => ?_, fun c => ?_⟩
                · have h1 := h1.1 c
                  have h2 := h2.1 c
                  exact hq _ _ _ h1 h2
                · have h1 := h1.2 c
                  have h2 := h2.2 c
                  exact hq _ _ _ h1 h2
              · have h1 := h1.2 c
                have h2 := h2.2 c
                unfold f_X9_readNumber_b103 at h1 h2 ⊢
                refine and_X9_fail h1 h2 (fun r8 I4 L5 h1 h2 => ?_)
                unfold f_X9_readNumber_b107 at h1 h2 ⊢
                refine ⟨fun c => ?_, fun c => ?_⟩
                · have h1 := h1.1 c
                  have h2 := h2.1 c
                  exact hq _ _ _ h1 h2
                · have h1 := h1.2 c
                  have h2 := h2.2 c
                  exact hq _ _ _ h1 h2
          · have h1 := h1.2 c
            have h2 := h2.2 c
            refine ⟨fun c => ?_, fun c => ?_⟩
            · have h1 := h1.1 c
              have h2 := h2.1 c
              unfold f_X9_readNumber_b76 at h1 h2 ⊢
              unfold f_X9_readNumber_b77 at h1 h2 ⊢
              refine ⟨fun c => ?_, fun c => ?_⟩
              · have h1 := h1.1 c
                have h2 := h2.1 c
                unfold f_X9_readNumber_b107 at h1 h2 ⊢
                refine ⟨fun c => ?_, fun c => ?_⟩
                · have h1 := h1.1 c
                  have h2 := h2.1 c
                  exact hq _ _ _ h1 h2
                · have h1 := h1.2 c
                  have h2 := h2.2 c
                  exact hq _ _ _ h1 h2
              · have h1 := h1.2 c
                have h2 := h2.2 c
                refine ⟨fun c => ?_, fun c => ?_⟩
                · have h1 := h1.1 c
                  have h2 := h2.1 c
                  unfold f_X9_readNumber_b103 at h1 h2 ⊢
                  refine and_X9_fail h1 h2 (fun r8 I4 L5 h1 h2 => ?_)
                  unfold f_X9_readNumber_b107 at h1 h2 ⊢
                  refine ⟨fun c => ?_, fun c => ?_⟩
                  · have h1 := h1.1 c
                    have h2 := h2.1 c
                    exact hq _ _ _ h1 h2
                  · have h1 := h1.2 c
                    have h2 := h2.2 c
                    exact hq _ _ _ h1 h2
                · have h1 := h1.2 c
                  have h2 := h2.2 c
                  unfold f_X9_readNumber_b103 at h1 h2 ⊢
                  refine and_X9_fail h1 h2 (fun r8 I4 L5 h1 h2 => ?_)
                  unfold f_X9_readNumber_b107 at h1 h2 ⊢
                  refine ⟨fun c => ?_, fun c => ?_⟩
                  · have h1 := h1.1 c
                    have h2 := h2.1 c
                    exact hq _ _ _ h1 h2
                  · have h1 := h1.2 c
                    have h2 := h2.2 c
                    exact hq _ _ _ h1 h2
            · have h1 := h1.2 c
              have h2 := h2.2 c
              refine ⟨fun c => ?_, fun c => ?_⟩
              · have h1 := h1.1 c
                have h2 := h2.1 c
                unfold f_X9_readNumber_b76 at h1 h2 ⊢
                unfold f_X9_readNumber_b77 at h1 h2 ⊢
                refine ⟨fun c => ?_, fun c => ?_⟩
                · have h1 := h1.1 c
                  have h2 := h2.1 c
                  unfold f_X9_readNumber_b107 at h1 h2 ⊢
                  refine ⟨fun c => ?_, fun c => ?_⟩
                  · have h1 := h1.1 c
                    have h2 := h2.1 c
                    exact hq _ _ _ h1 h2
                  · have h1 := h1.2 c
                    have h2 := h2.2 c
                    exact hq _ _ _ h1 h2
                · have h1 := h1.2 c
                  have h2 := h2.2 c
                  refine ⟨fun c => ?_, fun c => ?_⟩
                  · have h1 := h1.1 c
                    have h2 := h2.1 c
                    unfold f_X9_readNumber_b103 at h1 h2 ⊢
                    refine and_X9_fail h1 h2 (fun r8 I4 L5 h1 h2 => ?_)
                    unfold f_X9_readNumber_b107 at h1 h2 ⊢
                    refine ⟨fun c => ?_, fun c => ?_⟩
                    · have h1 := h1.1 c
                      have h2 := h2.1 c
                      exact hq _ _ _ h1 h2
                    · have h1 := h1.2 c
                      have h2 := h2.2 c
                      exact hq _ _ _ h1 h2
                  · have h1 := h1.2 c
                    have h2 := h2.2 c
                    unfold f_X9_readNumber_b103 at h1 h2 ⊢
                    refine and_X9_fail h1 h2 (fun r8 I4 L5 h1 h2 => ?_)
                    unfold f_X9_readNumber_b107 at h1 h2 ⊢
                    refine ⟨fun c => ?_, fun c => ?_⟩
                    · have h1 := h1.1 c
                      have h2 := h2.1 c
                      exact hq _ _ _ h1 h2
                    · have h1 := h1.2 c
                      have h2 := h2.2 c
                      exact hq _ _ _ h1 h2
              · have h1 := h1.2 c
                have h2 := h2.2 c
                unfold f_X9_readNumber_b77 at h1 h2 ⊢
                refine ⟨fun c => ?_, fun c => ?_⟩
                · have h1 := h1.1 c
                  have h2 := h2.1 c
                  unfold f_X9_readNumber_b107 at h1 h2 ⊢
                  refine ⟨fun c => ?_, fun c => ?_⟩
                  · have h1 := h1.1 c
                    have h2 := h2.1 c
                    exact hq _ _ _ h1 h2
                  · have h1 := h1.2 c
                    have h2 := h2.2 c
                    exact hq _ _ _ h1 h2
                · have h1 := h1.2 c
                  have h2 := h2.2 c
                  refine ⟨fun c => ?_, fun c => ?_⟩
                  · have h1 := h1.1 c
                    have h2 := h2.1 c
                    unfold f_X9_readNumber_b103 at h1 h2 ⊢
                    refine and_X9_fail h1 h2 (fun r8 I4 L5 h1 h2 => ?_)
                    unfold f_X9_readNumber_b107 at h1 h2 ⊢
                    refine ⟨fun c => ?_, fun c => ?_⟩
                    · have h1 := h1.1 c
                      have h2 := h2.1 c
                      exact hq _ _ _ h1 h2
                    · have h1 := h1.2 c
                      have h2 := h2.2 c
                      exact hq _ _ _ h1 h2
                  · have h1 := h1.2 c
                    have h2 := h2.2 c
                    unfold f_X9_readNumber_b103 at h1 h2 ⊢
                    refine and_X9_fail h1 h2 (fun r8 I4 L5 h1 h2 => ?_)
                    unfold f_X9_readNumber_b107 at h1 h2 ⊢
                    refine ⟨fun c => ?_, fun c => ?_⟩
                    · have h1 := h1.1 c
                      have h2 := h2.1 c
                      exact hq _ _ _ h1 h2
                    · have h1 := h1.2 c
                      have h2 := h2.2 c
                      exact hq _ _ _ h1 h2
        · have h1 := h1.2 c
          have h2 := h2.2 c
          refine and_X9_look h1 h2 (fun r36 I32 L33 h1 h2 => ?_)
          intro x37 ex37
          have h1 := h1 x37 ex37
          have h2 := h2 x37 ex37
          intro I38 eI38
          have h1 := h1 I38 eI38
          have h2 := h2 I38 eI38
          intro x39 ex39
          have h1 := h1 x39 ex39
          have h2 := h2 x39 ex39
          exact ih _ _ _ _ _ _ _ _ _ h1 h2
set_option maxHeartbeats 4000000 in
theorem and_X9_readNumber {v0 : Nat} {v1 : Nat} {v2 : Int32} {v3 : Int32} {Z : jZ} {I : jI} {L : jL} {Q1 Q2 Q3 : Int32 → jI → jL → Prop} (h1 : f_X9_readNumber v0 v1 v2 v3 Z I L Q1) (h2 : f_X9_readNumber v0 v1 v2 v3 Z I L Q2) (hq : ∀ (x0 : Int32) (x1 : jI) (x2 : jL), Q1 x0 x1 x2 → Q2 x0 x1 x2 → Q3 x0 x1 x2) : f_X9_readNumber v0 v1 v2 v3 Z I L Q3 := by
  unfold f_X9_readNumber at h1 h2 ⊢
  obtain ⟨n1, h1⟩ := h1
  obtain ⟨n2, h2⟩ := h2
  exact ⟨n1, and_X9_readNumber_L6  hq n1 n2 _ _ _ _ _ _ _ _ h1 h2⟩
set_option maxHeartbeats 4000000 in
theorem and_X9_readMark {v0 : Nat} {v1 : Nat} {v2 : Int32} {Z : jZ} {I : jI} {L : jL} {Q1 Q2 Q3 : Int32 → jI → jL → Prop} (h1 : f_X9_readMark v0 v1 v2 Z I L Q1) (h2 : f_X9_readMark v0 v1 v2 Z I L Q2) (hq : ∀ (x0 : Int32) (x1 : jI) (x2 : jL), Q1 x0 x1 x2 → Q2 x0 x1 x2 → Q3 x0 x1 x2) : f_X9_readMark v0 v1 v2 Z I L Q3 := by
  unfold f_X9_readMark at h1 h2 ⊢
  refine and_X9_look h1 h2 (fun r7 I3 L4 h1 h2 => ?_)
  refine ⟨fun c => ?_, fun c => ?_⟩
  · have h1 := h1.1 c
    have h2 := h2.1 c
    intro I9 eI9
    have h1 := h1 I9 eI9
    have h2 := h2 I9 eI9
    exact hq _ _ _ h1 h2
  · have h1 := h1.2 c
    have h2 := h2.2 c
    refine and_X9_fail h1 h2 (fun r16 I12 L13 h1 h2 => ?_)
    exact hq _ _ _ h1 h2
set_option maxHeartbeats 4000000 in
theorem and_X9_readFamily {v0 : Nat} {v1 : Nat} {Z : jZ} {I : jI} {L : jL} {Q1 Q2 Q3 : Int32 → jI → jL → Prop} (h1 : f_X9_readFamily v0 v1 Z I L Q1) (h2 : f_X9_readFamily v0 v1 Z I L Q2) (hq : ∀ (x0 : Int32) (x1 : jI) (x2 : jL), Q1 x0 x1 x2 → Q2 x0 x1 x2 → Q3 x0 x1 x2) : f_X9_readFamily v0 v1 Z I L Q3 := by
  unfold f_X9_readFamily at h1 h2 ⊢
  refine and_X9_look h1 h2 (fun r7 I3 L4 h1 h2 => ?_)
  intro x8 ex8
  have h1 := h1 x8 ex8
  have h2 := h2 x8 ex8
  refine and_X11_isFamily h1 h2 (fun r15 I11 L12 h1 h2 => ?_)
  refine ⟨fun c => ?_, fun c => ?_⟩
  · have h1 := h1.1 c
    have h2 := h2.1 c
    intro I17 eI17
    have h1 := h1 I17 eI17
    have h2 := h2 I17 eI17
    exact hq _ _ _ h1 h2
  · have h1 := h1.2 c
    have h2 := h2.2 c
    refine and_X9_fail h1 h2 (fun r24 I20 L21 h1 h2 => ?_)
    exact hq _ _ _ h1 h2
set_option maxHeartbeats 4000000 in
theorem and_X9_readTimes {v0 : Nat} {v1 : Nat} {Z : jZ} {I : jI} {L : jL} {Q1 Q2 Q3 : Int32 → jI → jL → Prop} (h1 : f_X9_readTimes v0 v1 Z I L Q1) (h2 : f_X9_readTimes v0 v1 Z I L Q2) (hq : ∀ (x0 : Int32) (x1 : jI) (x2 : jL), Q1 x0 x1 x2 → Q2 x0 x1 x2 → Q3 x0 x1 x2) : f_X9_readTimes v0 v1 Z I L Q3 := by
  unfold f_X9_readTimes at h1 h2 ⊢
  refine and_X9_look h1 h2 (fun r7 I3 L4 h1 h2 => ?_)
  refine ⟨fun c => ?_, fun c => ?_⟩
  · have h1 := h1.1 c
    have h2 := h2.1 c
    intro I9 eI9
    have h1 := h1 I9 eI9
    have h2 := h2 I9 eI9
    refine and_X9_readNumber h1 h2 (fun r16 I12 L13 h1 h2 => ?_)
    exact hq _ _ _ h1 h2
  · have h1 := h1.2 c
    have h2 := h2.2 c
    exact hq _ _ _ h1 h2
set_option maxHeartbeats 4000000 in
theorem and_X9_put {v0 : Nat} {v1 : Int32} {v2 : Int32} {v3 : Int32} {v4 : Int32} {v5 : Int32} {Z : jZ} {I : jI} {L : jL} {Q1 Q2 Q3 : jI → jL → Prop} (h1 : f_X9_put v0 v1 v2 v3 v4 v5 Z I L Q1) (h2 : f_X9_put v0 v1 v2 v3 v4 v5 Z I L Q2) (hq : ∀ (x0 : jI) (x1 : jL), Q1 x0 x1 → Q2 x0 x1 → Q3 x0 x1) : f_X9_put v0 v1 v2 v3 v4 v5 Z I L Q3 := by
  unfold f_X9_put at h1 h2 ⊢
  refine ⟨fun c => ?_, fun c => ?_⟩
  · have h1 := h1.1 c
    have h2 := h2.1 c
    exact hq _ _ h1 h2
  · have h1 := h1.2 c
    have h2 := h2.2 c
    intro b2 eb2
    have h1 := h1 b2 eb2
    have h2 := h2 b2 eb2
    refine ⟨h1.1, ?_⟩
    have h1 := h1.2
    have h2 := h2.2
    intro I4 eI4
    have h1 := h1 I4 eI4
    have h2 := h2 I4 eI4
    intro b5 eb5
    have h1 := h1 b5 eb5
    have h2 := h2 b5 eb5
    refine ⟨h1.1, ?_⟩
    have h1 := h1.2
    have h2 := h2.2
    intro I7 eI7
    have h1 := h1 I7 eI7
    have h2 := h2 I7 eI7
    intro b8 eb8
    have h1 := h1 b8 eb8
    have h2 := h2 b8 eb8
    refine ⟨h1.1, ?_⟩
    have h1 := h1.2
    have h2 := h2.2
    intro I10 eI10
    have h1 := h1 I10 eI10
    have h2 := h2 I10 eI10
    intro b11 eb11
    have h1 := h1 b11 eb11
    have h2 := h2 b11 eb11
    refine ⟨h1.1, ?_⟩
    have h1 := h1.2
    have h2 := h2.2
    intro I13 eI13
    have h1 := h1 I13 eI13
    have h2 := h2 I13 eI13
    intro b14 eb14
    have h1 := h1 b14 eb14
    have h2 := h2 b14 eb14
    refine ⟨h1.1, ?_⟩
    have h1 := h1.2
    have h2 := h2.2
    intro I16 eI16
    have h1 := h1 I16 eI16
    have h2 := h2 I16 eI16
    intro I17 eI17
    have h1 := h1 I17 eI17
    have h2 := h2 I17 eI17
    exact hq _ _ h1 h2
set_option maxHeartbeats 4000000 in
theorem and_X9_readLine_L151 {Z : jZ} {Q1 Q2 Q3 : Int32 → jI → jL → Prop} (hq : ∀ (x0 : Int32) (x1 : jI) (x2 : jL), Q1 x0 x1 x2 → Q2 x0 x1 x2 → Q3 x0 x1 x2) : ∀ (n m : Nat) (v0 : Nat) (v2 : Int32) (v3 : Int32) (v4 : Int32) (v5 : Int32) (v6 : Int32) (v7 : Int32) (v8 : Int32) (I : jI) (L : jL), f_X9_readLine_L151 Z Q1 n v0 v2 v3 v4 v5 v6 v7 v8 I L → f_X9_readLine_L151 Z Q2 m v0 v2 v3 v4 v5 v6 v7 v8 I L → f_X9_readLine_L151 Z Q3 n v0 v2 v3 v4 v5 v6 v7 v8 I L := by
  intro n
  induction n with
  | zero => intro m v0 v2 v3 v4 v5 v6 v7 v8 I L h1 h2; exact h1.elim
  | succ n ih =>
    intro m v0 v2 v3 v4 v5 v6 v7 v8 I L h1 h2
    cases m with
    | zero => exact h2.elim
    | succ m =>
      unfold f_X9_readLine_L151 at h1 h2 ⊢
      refine ⟨fun c => ?_, fun c => ?_⟩
      · have h1 := h1.1 c
        have h2 := h2.1 c
        refine ⟨fun c => ?_, fun c => ?_⟩
        · have h1 := h1.1 c
          have h2 := h2.1 c
          exact hq _ _ _ h1 h2
        · have h1 := h1.2 c
          have h2 := h2.2 c
          exact hq _ _ _ h1 h2
      · have h1 := h1.2 c
        have h2 := h2.2 c
        refine and_X9_put h1 h2 (fun I5 L6 h1 h2 => ?_)
        intro x9 ex9
        have h1 := h1 x9 ex9
        have h2 := h2 x9 ex9
        exact ih _ _ _ _ _ _ _ _ _ _ _ h1 h2
set_option maxHeartbeats 4000000 in
theorem and_X9_readLine {v0 : Nat} {v1 : Nat} {Z : jZ} {I : jI} {L : jL} {Q1 Q2 Q3 : Int32 → jI → jL → Prop} (h1 : f_X9_readLine v0 v1 Z I L Q1) (h2 : f_X9_readLine v0 v1 Z I L Q2) (hq : ∀ (x0 : Int32) (x1 : jI) (x2 : jL), Q1 x0 x1 x2 → Q2 x0 x1 x2 → Q3 x0 x1 x2) : f_X9_readLine v0 v1 Z I L Q3 := by
  unfold f_X9_readLine at h1 h2 ⊢
  refine ⟨fun c => ?_, fun c => ?_⟩
  · have h1 := h1.1 c
    have h2 := h2.1 c
    refine and_X9_readNumber h1 h2 (fun r26 I22 L23 h1 h2 => ?_)
    refine ⟨fun c => ?_, fun c => ?_⟩
    · have h1 := h1.1 c
      have h2 := h2.1 c
      exact hq _ _ _ h1 h2
    · have h1 := h1.2 c
      have h2 := h2.2 c
      refine and_X9_readMark h1 h2 (fun r34 I30 L31 h1 h2 => ?_)
      refine ⟨fun c => ?_, fun c => ?_⟩
      · have h1 := h1.1 c
        have h2 := h2.1 c
        refine and_X9_readNumber h1 h2 (fun r42 I38 L39 h1 h2 => ?_)
        refine ⟨fun c => ?_, fun c => ?_⟩
        · have h1 := h1.1 c
          have h2 := h2.1 c
          exact hq _ _ _ h1 h2
        · have h1 := h1.2 c
          have h2 := h2.2 c
          refine and_X9_readMark h1 h2 (fun r50 I46 L47 h1 h2 => ?_)
          refine ⟨fun c => ?_, fun c => ?_⟩
          · have h1 := h1.1 c
            have h2 := h2.1 c
            refine and_X9_readNumber h1 h2 (fun r58 I54 L55 h1 h2 => ?_)
            refine ⟨fun c => ?_, fun c => ?_⟩
            · have h1 := h1.1 c
              have h2 := h2.1 c
              exact hq _ _ _ h1 h2
            · have h1 := h1.2 c
              have h2 := h2.2 c
              refine and_X9_readMark h1 h2 (fun r66 I62 L63 h1 h2 => ?_)
              refine ⟨fun c => ?_, fun c => ?_⟩
              · have h1 := h1.1 c
                have h2 := h2.1 c
                refine and_X9_readFamily h1 h2 (fun r74 I70 L71 h1 h2 => ?_)
                refine ⟨fun c => ?_, fun c => ?_⟩
                · have h1 := h1.1 c
                  have h2 := h2.1 c
                  refine and_X9_look h1 h2 (fun r82 I78 L79 h1 h2 => ?_)
                  refine ⟨fun c => ?_, fun c => ?_⟩
                  · have h1 := h1.1 c
                    have h2 := h2.1 c
                    unfold f_X9_readLine_b128 at h1 h2 ⊢
                    intro I10 eI10
                    have h1 := h1 I10 eI10
                    have h2 := h2 I10 eI10
                    refine and_X9_readTimes h1 h2 (fun r17 I13 L14 h1 h2 => ?_)
                    obtain ⟨n1, h1⟩ := h1
                    obtain ⟨n2, h2⟩ := h2
                    exact ⟨n1, and_X9_readLine_L151  hq n1 n2 _ _ _ _ _ _ _ _ _ _ h1 h2⟩
                  · have h1 := h1.2 c
                    have h2 := h2.2 c
                    unfold f_X9_readLine_b128 at h1 h2 ⊢
                    intro I10 eI10
                    have h1 := h1 I10 eI10
                    have h2 := h2 I10 eI10
                    refine and_X9_readTimes h1 h2 (fun r17 I13 L14 h1 h2 => ?_)
                    obtain ⟨n1, h1⟩ := h1
                    obtain ⟨n2, h2⟩ := h2
                    exact ⟨n1, and_X9_readLine_L151  hq n1 n2 _ _ _ _ _ _ _ _ _ _ h1 h2⟩
                · have h1 := h1.2 c
                  have h2 := h2.2 c
                  exact hq _ _ _ h1 h2
              · have h1 := h1.2 c
                have h2 := h2.2 c
                exact hq _ _ _ h1 h2
          · have h1 := h1.2 c
            have h2 := h2.2 c
            exact hq _ _ _ h1 h2
      · have h1 := h1.2 c
        have h2 := h2.2 c
        exact hq _ _ _ h1 h2
  · have h1 := h1.2 c
    have h2 := h2.2 c
    refine and_X9_fail h1 h2 (fun r90 I86 L87 h1 h2 => ?_)
    exact hq _ _ _ h1 h2
set_option maxHeartbeats 4000000 in
theorem and_X9_readBreak {v0 : Nat} {v1 : Nat} {Z : jZ} {I : jI} {L : jL} {Q1 Q2 Q3 : Int32 → jI → jL → Prop} (h1 : f_X9_readBreak v0 v1 Z I L Q1) (h2 : f_X9_readBreak v0 v1 Z I L Q2) (hq : ∀ (x0 : Int32) (x1 : jI) (x2 : jL), Q1 x0 x1 x2 → Q2 x0 x1 x2 → Q3 x0 x1 x2) : f_X9_readBreak v0 v1 Z I L Q3 := by
  unfold f_X9_readBreak at h1 h2 ⊢
  refine ⟨fun c => ?_, fun c => ?_⟩
  · have h1 := h1.1 c
    have h2 := h2.1 c
    exact hq _ _ _ h1 h2
  · have h1 := h1.2 c
    have h2 := h2.2 c
    refine and_X9_readMark h1 h2 (fun r8 I4 L5 h1 h2 => ?_)
    refine ⟨fun c => ?_, fun c => ?_⟩
    · have h1 := h1.1 c
      have h2 := h2.1 c
      exact hq _ _ _ h1 h2
    · have h1 := h1.2 c
      have h2 := h2.2 c
      exact hq _ _ _ h1 h2
set_option maxHeartbeats 4000000 in
theorem and_X9_read_L43 {Z : jZ} {Q1 Q2 Q3 : Int32 → jI → jL → Prop} (hq : ∀ (x0 : Int32) (x1 : jI) (x2 : jL), Q1 x0 x1 x2 → Q2 x0 x1 x2 → Q3 x0 x1 x2) : ∀ (n m : Nat) (v0 : Nat) (v1 : Nat) (v2 : Int32) (v3 : Int32) (I : jI) (L : jL), f_X9_read_L43 Z Q1 n v0 v1 v2 v3 I L → f_X9_read_L43 Z Q2 m v0 v1 v2 v3 I L → f_X9_read_L43 Z Q3 n v0 v1 v2 v3 I L := by
  intro n
  induction n with
  | zero => intro m v0 v1 v2 v3 I L h1 h2; exact h1.elim
  | succ n ih =>
    intro m v0 v1 v2 v3 I L h1 h2
    cases m with
    | zero => exact h2.elim
    | succ m =>
      unfold f_X9_read_L43 at h1 h2 ⊢
      refine ⟨fun c => ?_, fun c => ?_⟩
      · have h1 := h1.1 c
        have h2 := h2.1 c
        unfold f_X9_read_b81 at h1 h2 ⊢
        refine ⟨fun c => ?_, fun c => ?_⟩
        · have h1 := h1.1 c
          have h2 := h2.1 c
          unfold f_X9_read_b104 at h1 h2 ⊢
          refine ⟨fun c => ?_, fun c => ?_⟩
          · have h1 := h1.1 c
            have h2 := h2.1 c
            refine ⟨fun c => ?_, fun c => ?_⟩
            · have h1 := h1.1 c
              have h2 := h2.1 c
              exact hq _ _ _ h1 h2
            · have h1 := h1.2 c
              have h2 := h2.2 c
              exact hq _ _ _ h1 h2
          · have h1 := h1.2 c
            have h2 := h2.2 c
            exact hq _ _ _ h1 h2
        · have h1 := h1.2 c
          have h2 := h2.2 c
          refine ⟨fun c => ?_, fun c => ?_⟩
          · have h1 := h1.1 c
            have h2 := h2.1 c
            unfold f_X9_read_b104 at h1 h2 ⊢
            refine ⟨fun c => ?_, fun c => ?_⟩
            · have h1 := h1.1 c
              have h2 := h2.1 c
              refine ⟨fun c => ?_, fun c => ?_⟩
              · have h1 := h1.1 c
                have h2 := h2.1 c
                exact hq _ _ _ h1 h2
              · have h1 := h1.2 c
                have h2 := h2.2 c
                exact hq _ _ _ h1 h2
            · have h1 := h1.2 c
              have h2 := h2.2 c
              exact hq _ _ _ h1 h2
          · have h1 := h1.2 c
            have h2 := h2.2 c
            intro I5 eI5
            have h1 := h1 I5 eI5
            have h2 := h2 I5 eI5
            unfold f_X9_read_b104 at h1 h2 ⊢
            refine ⟨fun c => ?_, fun c => ?_⟩
            · have h1 := h1.1 c
              have h2 := h2.1 c
              refine ⟨fun c => ?_, fun c => ?_⟩
              · have h1 := h1.1 c
                have h2 := h2.1 c
                exact hq _ _ _ h1 h2
              · have h1 := h1.2 c
                have h2 := h2.2 c
                exact hq _ _ _ h1 h2
            · have h1 := h1.2 c
              have h2 := h2.2 c
              exact hq _ _ _ h1 h2
      · have h1 := h1.2 c
        have h2 := h2.2 c
        refine ⟨fun c => ?_, fun c => ?_⟩
        · have h1 := h1.1 c
          have h2 := h2.1 c
          unfold f_X9_read_b81 at h1 h2 ⊢
          refine ⟨fun c => ?_, fun c => ?_⟩
          · have h1 := h1.1 c
            have h2 := h2.1 c
            unfold f_X9_read_b104 at h1 h2 ⊢
            refine ⟨fun c => ?_, fun c => ?_⟩
            · have h1 := h1.1 c
              have h2 := h2.1 c
              refine ⟨fun c => ?_, fun c => ?_⟩
              · have h1 := h1.1 c
                have h2 := h2.1 c
                exact hq _ _ _ h1 h2
              · have h1 := h1.2 c
                have h2 := h2.2 c
                exact hq _ _ _ h1 h2
            · have h1 := h1.2 c
              have h2 := h2.2 c
              exact hq _ _ _ h1 h2
          · have h1 := h1.2 c
            have h2 := h2.2 c
            refine ⟨fun c => ?_, fun c => ?_⟩
            · have h1 := h1.1 c
              have h2 := h2.1 c
              unfold f_X9_read_b104 at h1 h2 ⊢
              refine ⟨fun c => ?_, fun c => ?_⟩
              · have h1 := h1.1 c
                have h2 := h2.1 c
                refine ⟨fun c => ?_, fun c => ?_⟩
                · have h1 := h1.1 c
                  have h2 := h2.1 c
                  exact hq _ _ _ h1 h2
                · have h1 := h1.2 c
                  have h2 := h2.2 c
                  exact hq _ _ _ h1 h2
              · have h1 := h1.2 c
                have h2 := h2.2 c
                exact hq _ _ _ h1 h2
            · have h1 := h1.2 c
              have h2 := h2.2 c
              intro I5 eI5
              have h1 := h1 I5 eI5
              have h2 := h2 I5 eI5
              unfold f_X9_read_b104 at h1 h2 ⊢
              refine ⟨fun c => ?_, fun c => ?_⟩
              · have h1 := h1.1 c
                have h2 := h2.1 c
                refine ⟨fun c => ?_, fun c => ?_⟩
                · have h1 := h1.1 c
                  have h2 := h2.1 c
                  exact hq _ _ _ h1 h2
                · have h1 := h1.2 c
                  have h2 := h2.2 c
                  exact hq _ _ _ h1 h2
              · have h1 := h1.2 c
                have h2 := h2.2 c
                exact hq _ _ _ h1 h2
        · have h1 := h1.2 c
          have h2 := h2.2 c
          refine and_X9_readLine h1 h2 (fun r15 I11 L12 h1 h2 => ?_)
          refine ⟨fun c => ?_, fun c => ?_⟩
          · have h1 := h1.1 c
            have h2 := h2.1 c
            unfold f_X9_read_b73 at h1 h2 ⊢
            unfold f_X9_read_b74 at h1 h2 ⊢
            intro x6 ex6
            have h1 := h1 x6 ex6
            have h2 := h2 x6 ex6
            exact ih _ _ _ _ _ _ _ h1 h2
          · have h1 := h1.2 c
            have h2 := h2.2 c
            refine and_X9_readBreak h1 h2 (fun r23 I19 L20 h1 h2 => ?_)
            refine ⟨fun c => ?_, fun c => ?_⟩
            · have h1 := h1.1 c
              have h2 := h2.1 c
              unfold f_X9_read_b73 at h1 h2 ⊢
              unfold f_X9_read_b74 at h1 h2 ⊢
              intro x6 ex6
              have h1 := h1 x6 ex6
              have h2 := h2 x6 ex6
              exact ih _ _ _ _ _ _ _ h1 h2
            · have h1 := h1.2 c
              have h2 := h2.2 c
              unfold f_X9_read_b74 at h1 h2 ⊢
              intro x6 ex6
              have h1 := h1 x6 ex6
              have h2 := h2 x6 ex6
              exact ih _ _ _ _ _ _ _ h1 h2
set_option maxHeartbeats 4000000 in
theorem and_X9_read {v0 : Nat} {v1 : Nat} {Z : jZ} {I : jI} {L : jL} {Q1 Q2 Q3 : Int32 → jI → jL → Prop} (h1 : f_X9_read v0 v1 Z I L Q1) (h2 : f_X9_read v0 v1 Z I L Q2) (hq : ∀ (x0 : Int32) (x1 : jI) (x2 : jL), Q1 x0 x1 x2 → Q2 x0 x1 x2 → Q3 x0 x1 x2) : f_X9_read v0 v1 Z I L Q3 := by
  unfold f_X9_read at h1 h2 ⊢
  intro I26 eI26
  have h1 := h1 I26 eI26
  have h2 := h2 I26 eI26
  intro I27 eI27
  have h1 := h1 I27 eI27
  have h2 := h2 I27 eI27
  intro I28 eI28
  have h1 := h1 I28 eI28
  have h2 := h2 I28 eI28
  intro I29 eI29
  have h1 := h1 I29 eI29
  have h2 := h2 I29 eI29
  refine ⟨fun c => ?_, fun c => ?_⟩
  · have h1 := h1.1 c
    have h2 := h2.1 c
    unfold f_X9_read_b40 at h1 h2 ⊢
    obtain ⟨n1, h1⟩ := h1
    obtain ⟨n2, h2⟩ := h2
    exact ⟨n1, and_X9_read_L43  hq n1 n2 _ _ _ _ _ _ h1 h2⟩
  · have h1 := h1.2 c
    have h2 := h2.2 c
    unfold f_X9_read_b40 at h1 h2 ⊢
    obtain ⟨n1, h1⟩ := h1
    obtain ⟨n2, h2⟩ := h2
    exact ⟨n1, and_X9_read_L43  hq n1 n2 _ _ _ _ _ _ h1 h2⟩
set_option maxHeartbeats 4000000 in
theorem and_X10_clear {v0 : Nat} {Z : jZ} {I : jI} {L : jL} {Q1 Q2 Q3 : jI → jL → Prop} (h1 : f_X10_clear v0 Z I L Q1) (h2 : f_X10_clear v0 Z I L Q2) (hq : ∀ (x0 : jI) (x1 : jL), Q1 x0 x1 → Q2 x0 x1 → Q3 x0 x1) : f_X10_clear v0 Z I L Q3 := by
  unfold f_X10_clear at h1 h2 ⊢
  intro I1 eI1
  have h1 := h1 I1 eI1
  have h2 := h2 I1 eI1
  exact hq _ _ h1 h2
set_option maxHeartbeats 4000000 in
theorem and_J7_fill_53178_L5 {Z : jZ} {Q1 Q2 Q3 : jI → jL → Prop} (hq : ∀ (x0 : jI) (x1 : jL), Q1 x0 x1 → Q2 x0 x1 → Q3 x0 x1) : ∀ (n m : Nat) (v0 : Nat) (v1 : Int32) (v2 : Int32) (v3 : Int32) (I : jI) (L : jL), f_J7_fill_53178_L5 Z Q1 n v0 v1 v2 v3 I L → f_J7_fill_53178_L5 Z Q2 m v0 v1 v2 v3 I L → f_J7_fill_53178_L5 Z Q3 n v0 v1 v2 v3 I L := by
  intro n
  induction n with
  | zero => intro m v0 v1 v2 v3 I L h1 h2; exact h1.elim
  | succ n ih =>
    intro m v0 v1 v2 v3 I L h1 h2
    cases m with
    | zero => exact h2.elim
    | succ m =>
      unfold f_J7_fill_53178_L5 at h1 h2 ⊢
      refine ⟨fun c => ?_, fun c => ?_⟩
      · have h1 := h1.1 c
        have h2 := h2.1 c
        exact hq _ _ h1 h2
      · have h1 := h1.2 c
        have h2 := h2.2 c
        refine ⟨h1.1, ?_⟩
        have h1 := h1.2
        have h2 := h2.2
        intro I3 eI3
        have h1 := h1 I3 eI3
        have h2 := h2 I3 eI3
        intro x4 ex4
        have h1 := h1 x4 ex4
        have h2 := h2 x4 ex4
        exact ih _ _ _ _ _ _ _ h1 h2
set_option maxHeartbeats 4000000 in
theorem and_J7_fill_53178 {v0 : Nat} {v1 : Int32} {Z : jZ} {I : jI} {L : jL} {Q1 Q2 Q3 : jI → jL → Prop} (h1 : f_J7_fill_53178 v0 v1 Z I L Q1) (h2 : f_J7_fill_53178 v0 v1 Z I L Q2) (hq : ∀ (x0 : jI) (x1 : jL), Q1 x0 x1 → Q2 x0 x1 → Q3 x0 x1) : f_J7_fill_53178 v0 v1 Z I L Q3 := by
  unfold f_J7_fill_53178 at h1 h2 ⊢
  intro x5 ex5
  have h1 := h1 x5 ex5
  have h2 := h2 x5 ex5
  obtain ⟨n1, h1⟩ := h1
  obtain ⟨n2, h2⟩ := h2
  exact ⟨n1, and_J7_fill_53178_L5  hq n1 n2 _ _ _ _ _ _ h1 h2⟩
set_option maxHeartbeats 4000000 in
theorem and_X4_deal_L10 {Z : jZ} {Q1 Q2 Q3 : jI → jL → Prop} (hq : ∀ (x0 : jI) (x1 : jL), Q1 x0 x1 → Q2 x0 x1 → Q3 x0 x1) : ∀ (n m : Nat) (v0 : Nat) (v1 : Nat) (v2 : Int32) (v3 : Int32) (I : jI) (L : jL), f_X4_deal_L10 Z Q1 n v0 v1 v2 v3 I L → f_X4_deal_L10 Z Q2 m v0 v1 v2 v3 I L → f_X4_deal_L10 Z Q3 n v0 v1 v2 v3 I L := by
  intro n
  induction n with
  | zero => intro m v0 v1 v2 v3 I L h1 h2; exact h1.elim
  | succ n ih =>
    intro m v0 v1 v2 v3 I L h1 h2
    cases m with
    | zero => exact h2.elim
    | succ m =>
      unfold f_X4_deal_L10 at h1 h2 ⊢
      refine ⟨fun c => ?_, fun c => ?_⟩
      · have h1 := h1.1 c
        have h2 := h2.1 c
        unfold f_X4_deal_b58 at h1 h2 ⊢
        intro I1 eI1
        have h1 := h1 I1 eI1
        have h2 := h2 I1 eI1
        refine and_X4_findMains h1 h2 (fun I4 L5 h1 h2 => ?_)
        exact hq _ _ h1 h2
      · have h1 := h1.2 c
        have h2 := h2.2 c
        refine ⟨fun c => ?_, fun c => ?_⟩
        · have h1 := h1.1 c
          have h2 := h2.1 c
          unfold f_X4_deal_b58 at h1 h2 ⊢
          intro I1 eI1
          have h1 := h1 I1 eI1
          have h2 := h2 I1 eI1
          refine and_X4_findMains h1 h2 (fun I4 L5 h1 h2 => ?_)
          exact hq _ _ h1 h2
        · have h1 := h1.2 c
          have h2 := h2.2 c
          refine ⟨fun c => ?_, fun c => ?_⟩
          · have h1 := h1.1 c
            have h2 := h2.1 c
            unfold f_X4_deal_b58 at h1 h2 ⊢
            intro I1 eI1
            have h1 := h1 I1 eI1
            have h2 := h2 I1 eI1
            refine and_X4_findMains h1 h2 (fun I4 L5 h1 h2 => ?_)
            exact hq _ _ h1 h2
          · have h1 := h1.2 c
            have h2 := h2.2 c
            refine ⟨h1.1, ?_⟩
            have h1 := h1.2
            have h2 := h2.2
            refine and_X11_isFamily h1 h2 (fun r19 I15 L16 h1 h2 => ?_)
            refine ⟨fun c => ?_, fun c => ?_⟩
            · have h1 := h1.1 c
              have h2 := h2.1 c
              unfold f_X4_deal_b52 at h1 h2 ⊢
              intro x8 ex8
              have h1 := h1 x8 ex8
              have h2 := h2 x8 ex8
              exact ih _ _ _ _ _ _ _ h1 h2
            · have h1 := h1.2 c
              have h2 := h2.2 c
              intro b21 eb21
              have h1 := h1 b21 eb21
              have h2 := h2 b21 eb21
              refine ⟨h1.1, ?_⟩
              have h1 := h1.2
              have h2 := h2.2
              refine ⟨h1.1, ?_⟩
              have h1 := h1.2
              have h2 := h2.2
              intro I24 eI24
              have h1 := h1 I24 eI24
              have h2 := h2 I24 eI24
              unfold f_X4_deal_b52 at h1 h2 ⊢
              intro x8 ex8
              have h1 := h1 x8 ex8
              have h2 := h2 x8 ex8
              exact ih _ _ _ _ _ _ _ h1 h2
set_option maxHeartbeats 4000000 in
theorem and_X4_deal {v0 : Nat} {v1 : Nat} {v2 : Int32} {Z : jZ} {I : jI} {L : jL} {Q1 Q2 Q3 : jI → jL → Prop} (h1 : f_X4_deal v0 v1 v2 Z I L Q1) (h2 : f_X4_deal v0 v1 v2 Z I L Q2) (hq : ∀ (x0 : jI) (x1 : jL), Q1 x0 x1 → Q2 x0 x1 → Q3 x0 x1) : f_X4_deal v0 v1 v2 Z I L Q3 := by
  unfold f_X4_deal at h1 h2 ⊢
  intro b25 eb25
  have h1 := h1 b25 eb25
  have h2 := h2 b25 eb25
  refine and_J7_fill_53178 h1 h2 (fun I28 L29 h1 h2 => ?_)
  obtain ⟨n1, h1⟩ := h1
  obtain ⟨n2, h2⟩ := h2
  exact ⟨n1, and_X4_deal_L10  hq n1 n2 _ _ _ _ _ _ h1 h2⟩
set_option maxHeartbeats 4000000 in
theorem and_X8_build {v0 : Nat} {v1 : Nat} {Z : jZ} {I : jI} {L : jL} {Q1 Q2 Q3 : jI → jL → Prop} (h1 : f_X8_build v0 v1 Z I L Q1) (h2 : f_X8_build v0 v1 Z I L Q2) (hq : ∀ (x0 : jI) (x1 : jL), Q1 x0 x1 → Q2 x0 x1 → Q3 x0 x1) : f_X8_build v0 v1 Z I L Q3 := by
  unfold f_X8_build at h1 h2 ⊢
  intro I1 eI1
  have h1 := h1 I1 eI1
  have h2 := h2 I1 eI1
  intro b2 eb2
  have h1 := h1 b2 eb2
  have h2 := h2 b2 eb2
  intro b3 eb3
  have h1 := h1 b3 eb3
  have h2 := h2 b3 eb3
  refine ⟨h1.1, ?_⟩
  have h1 := h1.2
  have h2 := h2.2
  intro I5 eI5
  have h1 := h1 I5 eI5
  have h2 := h2 I5 eI5
  intro b6 eb6
  have h1 := h1 b6 eb6
  have h2 := h2 b6 eb6
  intro b7 eb7
  have h1 := h1 b7 eb7
  have h2 := h2 b7 eb7
  refine ⟨h1.1, ?_⟩
  have h1 := h1.2
  have h2 := h2.2
  intro I9 eI9
  have h1 := h1 I9 eI9
  have h2 := h2 I9 eI9
  intro b10 eb10
  have h1 := h1 b10 eb10
  have h2 := h2 b10 eb10
  intro b11 eb11
  have h1 := h1 b11 eb11
  have h2 := h2 b11 eb11
  refine ⟨h1.1, ?_⟩
  have h1 := h1.2
  have h2 := h2.2
  intro I13 eI13
  have h1 := h1 I13 eI13
  have h2 := h2 I13 eI13
  intro b14 eb14
  have h1 := h1 b14 eb14
  have h2 := h2 b14 eb14
  intro b15 eb15
  have h1 := h1 b15 eb15
  have h2 := h2 b15 eb15
  refine ⟨h1.1, ?_⟩
  have h1 := h1.2
  have h2 := h2.2
  intro I17 eI17
  have h1 := h1 I17 eI17
  have h2 := h2 I17 eI17
  intro b18 eb18
  have h1 := h1 b18 eb18
  have h2 := h2 b18 eb18
  intro b19 eb19
  have h1 := h1 b19 eb19
  have h2 := h2 b19 eb19
  refine and_X4_deal h1 h2 (fun I22 L23 h1 h2 => ?_)
  exact hq _ _ h1 h2
set_option maxHeartbeats 4000000 in
theorem and_X11_stairs_L76 {Z : jZ} {Q1 Q2 Q3 : Int32 → jI → jL → Prop} (hq : ∀ (x0 : Int32) (x1 : jI) (x2 : jL), Q1 x0 x1 x2 → Q2 x0 x1 x2 → Q3 x0 x1 x2) : ∀ (n m : Nat) (v0 : Nat) (v1 : Int32) (v2 : Int32) (I : jI) (L : jL), f_X11_stairs_L76 Z Q1 n v0 v1 v2 I L → f_X11_stairs_L76 Z Q2 m v0 v1 v2 I L → f_X11_stairs_L76 Z Q3 n v0 v1 v2 I L := by
  intro n
  induction n with
  | zero => intro m v0 v1 v2 I L h1 h2; exact h1.elim
  | succ n ih =>
    intro m v0 v1 v2 I L h1 h2
    cases m with
    | zero => exact h2.elim
    | succ m =>
      unfold f_X11_stairs_L76 at h1 h2 ⊢
      intro b1 eb1
      have h1 := h1 b1 eb1
      have h2 := h2 b1 eb1
      refine ⟨fun c => ?_, fun c => ?_⟩
      · have h1 := h1.1 c
        have h2 := h2.1 c
        exact hq _ _ _ h1 h2
      · have h1 := h1.2 c
        have h2 := h2.2 c
        intro b3 eb3
        have h1 := h1 b3 eb3
        have h2 := h2 b3 eb3
        refine ⟨h1.1, ?_⟩
        have h1 := h1.2
        have h2 := h2.2
        intro b5 eb5
        have h1 := h1 b5 eb5
        have h2 := h2 b5 eb5
        intro I6 eI6
        have h1 := h1 I6 eI6
        have h2 := h2 I6 eI6
        intro x7 ex7
        have h1 := h1 x7 ex7
        have h2 := h2 x7 ex7
        exact ih _ _ _ _ _ _ h1 h2
set_option maxHeartbeats 4000000 in
theorem and_X5_startAnew {v0 : Nat} {Z : jZ} {I : jI} {L : jL} {Q1 Q2 Q3 : jI → jL → Prop} (h1 : f_X5_startAnew v0 Z I L Q1) (h2 : f_X5_startAnew v0 Z I L Q2) (hq : ∀ (x0 : jI) (x1 : jL), Q1 x0 x1 → Q2 x0 x1 → Q3 x0 x1) : f_X5_startAnew v0 Z I L Q3 := by
  unfold f_X5_startAnew at h1 h2 ⊢
  intro I1 eI1
  have h1 := h1 I1 eI1
  have h2 := h2 I1 eI1
  intro I2 eI2
  have h1 := h1 I2 eI2
  have h2 := h2 I2 eI2
  intro I3 eI3
  have h1 := h1 I3 eI3
  have h2 := h2 I3 eI3
  exact hq _ _ h1 h2
set_option maxHeartbeats 4000000 in
theorem and_X11_stairs_L38 {Z : jZ} {Q1 Q2 Q3 : Int32 → jI → jL → Prop} (hq : ∀ (x0 : Int32) (x1 : jI) (x2 : jL), Q1 x0 x1 x2 → Q2 x0 x1 x2 → Q3 x0 x1 x2) : ∀ (n m : Nat) (v0 : Nat) (v1 : Int32) (v2 : Int32) (I : jI) (L : jL), f_X11_stairs_L38 Z Q1 n v0 v1 v2 I L → f_X11_stairs_L38 Z Q2 m v0 v1 v2 I L → f_X11_stairs_L38 Z Q3 n v0 v1 v2 I L := by
  intro n
  induction n with
  | zero => intro m v0 v1 v2 I L h1 h2; exact h1.elim
  | succ n ih =>
    intro m v0 v1 v2 I L h1 h2
    cases m with
    | zero => exact h2.elim
    | succ m =>
      unfold f_X11_stairs_L38 at h1 h2 ⊢
      refine ⟨fun c => ?_, fun c => ?_⟩
      · have h1 := h1.1 c
        have h2 := h2.1 c
        intro b10 eb10
        have h1 := h1 b10 eb10
        have h2 := h2 b10 eb10
        refine and_J7_fill_53178 h1 h2 (fun I13 L14 h1 h2 => ?_)
        obtain ⟨n1, h1⟩ := h1
        obtain ⟨n2, h2⟩ := h2
        exact ⟨n1, and_X11_stairs_L76  hq n1 n2 _ _ _ _ _ h1 h2⟩
      · have h1 := h1.2 c
        have h2 := h2.2 c
        refine and_X11_find h1 h2 (fun r24 I20 L21 h1 h2 => ?_)
        refine ⟨fun c => ?_, fun b25 c => ?_⟩
        · have h1 := h1.1 c
          have h2 := h2.1 c
          unfold f_X11_stairs_b60 at h1 h2 ⊢
          intro x8 ex8
          have h1 := h1 x8 ex8
          have h2 := h2 x8 ex8
          exact ih _ _ _ _ _ _ h1 h2
        · have h1 := h1.2 b25 c
          have h2 := h2.2 b25 c
          refine and_X5_startAnew h1 h2 (fun I29 L30 h1 h2 => ?_)
          unfold f_X11_stairs_b60 at h1 h2 ⊢
          intro x8 ex8
          have h1 := h1 x8 ex8
          have h2 := h2 x8 ex8
          exact ih _ _ _ _ _ _ h1 h2
set_option maxHeartbeats 4000000 in
theorem and_X11_stairs {v0 : Nat} {Z : jZ} {I : jI} {L : jL} {Q1 Q2 Q3 : Int32 → jI → jL → Prop} (h1 : f_X11_stairs v0 Z I L Q1) (h2 : f_X11_stairs v0 Z I L Q2) (hq : ∀ (x0 : Int32) (x1 : jI) (x2 : jL), Q1 x0 x1 x2 → Q2 x0 x1 x2 → Q3 x0 x1 x2) : f_X11_stairs v0 Z I L Q3 := by
  unfold f_X11_stairs at h1 h2 ⊢
  intro b33 eb33
  have h1 := h1 b33 eb33
  have h2 := h2 b33 eb33
  intro b34 eb34
  have h1 := h1 b34 eb34
  have h2 := h2 b34 eb34
  refine and_X9_read h1 h2 (fun r41 I37 L38 h1 h2 => ?_)
  intro b42 eb42
  have h1 := h1 b42 eb42
  have h2 := h2 b42 eb42
  refine and_X10_clear h1 h2 (fun I45 L46 h1 h2 => ?_)
  refine ⟨fun c => ?_, fun c => ?_⟩
  · have h1 := h1.1 c
    have h2 := h2.1 c
    intro b50 eb50
    have h1 := h1 b50 eb50
    have h2 := h2 b50 eb50
    intro b51 eb51
    have h1 := h1 b51 eb51
    have h2 := h2 b51 eb51
    refine and_X8_build h1 h2 (fun I54 L55 h1 h2 => ?_)
    obtain ⟨n1, h1⟩ := h1
    obtain ⟨n2, h2⟩ := h2
    exact ⟨n1, and_X11_stairs_L38  hq n1 n2 _ _ _ _ _ h1 h2⟩
  · have h1 := h1.2 c
    have h2 := h2.2 c
    exact hq _ _ _ h1 h2
end
section
/-! ===== what the text of a LAW says: where it ends or is at fault, and its numbers, letters and signs in the order in which they are worked off ===== -/
theorem ob {α β : Type} {o : Option α} {f : α → Option β} {b : β} (h : o.bind f = some b) : ∃ a, o = some a ∧ f a = some b := by
  cases o with
  | none => cases h
  | some a => exact ⟨a, rfl, h⟩
/-- the first d digits' value; how many digits there are, of three at most -/
def nvd (g : Int → Int) (a : Int) : Nat → Int
  | 0 => 0
  | d + 1 => nvd g a d * 10 + g (a + d) - 48
def n3 (g : Int → Int) (a : Int) : Nat := if 48 ≤ g a ∧ g a ≤ 57 then (if 48 ≤ g (a + 1) ∧ g (a + 1) ≤ 57 then (if 48 ≤ g (a + 2) ∧ g (a + 2) ≤ 57 then 3 else 2) else 1) else 0
/-- while a number is read -/
def N3 (g : Int → Int) (a : Int) (d : Nat) : Prop := d ≤ 3 ∧ ∀ i : Nat, i < d → 48 ≤ g (a + i) ∧ g (a + i) ≤ 57
theorem N3_0 {g : Int → Int} {a : Int} : N3 g a 0 := ⟨by omega, fun i h => by omega⟩
theorem N3_step {g : Int → Int} {a : Int} {d : Nat} (h : N3 g a d) (hd : d < 3) (hp : 48 ≤ g (a + d) ∧ g (a + d) ≤ 57) : N3 g a (d + 1) := ⟨by omega, fun i hi => by
  by_cases c : i = d
  · rw [c]; exact hp
  · exact h.2 i (by omega)⟩
theorem N3_end {g : Int → Int} {a : Int} {d : Nat} (h : N3 g a d) (he : d = 3 ∨ ¬ (48 ≤ g (a + d) ∧ g (a + d) ≤ 57)) : n3 g a = d := by
  obtain ⟨h3, h⟩ := h
  have a0 : a + ((0 : Nat) : Int) = a := by omega
  have hd : d = 0 ∨ d = 1 ∨ d = 2 ∨ d = 3 := by omega
  unfold n3
  rcases hd with rfl | rfl | rfl | rfl
  · have he := he.resolve_left (by omega)
    rw [a0] at he
    rw [if_neg he]
  · have he := he.resolve_left (by omega)
    have h0 := h 0 (by omega)
    rw [a0] at h0
    have he : ¬ (48 ≤ g (a + 1) ∧ g (a + 1) ≤ 57) := he
    rw [if_pos h0, if_neg he]
  · have he := he.resolve_left (by omega)
    have h0 := h 0 (by omega)
    rw [a0] at h0
    have h1 : 48 ≤ g (a + 1) ∧ g (a + 1) ≤ 57 := h 1 (by omega)
    have he : ¬ (48 ≤ g (a + 2) ∧ g (a + 2) ≤ 57) := he
    rw [if_pos h0, if_pos h1, if_neg he]
  · have h0 := h 0 (by omega)
    rw [a0] at h0
    have h1 : 48 ≤ g (a + 1) ∧ g (a + 1) ≤ 57 := h 1 (by omega)
    have h2 : 48 ≤ g (a + 2) ∧ g (a + 2) ≤ 57 := h 2 (by omega)
    rw [if_pos h0, if_pos h1, if_pos h2]
theorem N3_val {g : Int → Int} {a : Int} {d : Nat} (h : N3 g a d) : 0 ≤ nvd g a d ∧ nvd g a d ≤ 999 ∧ (d ≤ 2 → nvd g a d ≤ 99) := by
  obtain ⟨h3, h⟩ := h
  have hd : d = 0 ∨ d = 1 ∨ d = 2 ∨ d = 3 := by omega
  rcases hd with rfl | rfl | rfl | rfl
  · show 0 ≤ (0 : Int) ∧ (0 : Int) ≤ 999 ∧ (0 ≤ 2 → (0 : Int) ≤ 99)
    omega
  · have h0 := h 0 (by omega)
    show 0 ≤ (0 : Int) * 10 + g (a + (0 : Nat)) - 48 ∧ (0 : Int) * 10 + g (a + (0 : Nat)) - 48 ≤ 999 ∧ (1 ≤ 2 → (0 : Int) * 10 + g (a + (0 : Nat)) - 48 ≤ 99)
    omega
  · have h0 := h 0 (by omega)
    have h1 := h 1 (by omega)
    show 0 ≤ ((0 : Int) * 10 + g (a + (0 : Nat)) - 48) * 10 + g (a + (1 : Nat)) - 48 ∧ ((0 : Int) * 10 + g (a + (0 : Nat)) - 48) * 10 + g (a + (1 : Nat)) - 48 ≤ 999 ∧ (2 ≤ 2 → ((0 : Int) * 10 + g (a + (0 : Nat)) - 48) * 10 + g (a + (1 : Nat)) - 48 ≤ 99)
    omega
  · have h0 := h 0 (by omega)
    have h1 := h 1 (by omega)
    have h2 := h 2 (by omega)
    show 0 ≤ (((0 : Int) * 10 + g (a + (0 : Nat)) - 48) * 10 + g (a + (1 : Nat)) - 48) * 10 + g (a + (2 : Nat)) - 48 ∧ (((0 : Int) * 10 + g (a + (0 : Nat)) - 48) * 10 + g (a + (1 : Nat)) - 48) * 10 + g (a + (2 : Nat)) - 48 ≤ 999 ∧ (3 ≤ 2 → (((0 : Int) * 10 + g (a + (0 : Nat)) - 48) * 10 + g (a + (1 : Nat)) - 48) * 10 + g (a + (2 : Nat)) - 48 ≤ 99)
    omega
theorem n3_is {g : Int → Int} {a : Int} : N3 g a (n3 g a) := by
  have a0 : a + ((0 : Nat) : Int) = a := by omega
  unfold n3
  split
  · rename_i c0
    have s1 : N3 g a 1 := N3_step N3_0 (by omega) (by rw [a0]; exact c0)
    split
    · rename_i c1
      have s2 : N3 g a 2 := N3_step s1 (by omega) c1
      split
      · rename_i c2
        exact N3_step s2 (by omega) c2
      · exact s2
    · exact s1
  · exact N3_0
/-- (where it stops, where it is at fault or -1, the numbers): 0 an expression, 1 a sum, 2 a product, 3 and 7 a thing with an even, an odd number of - ahead of it, 6 a thing, 4 what more is added, 5 what more is multiplied -/
def PL (g : Int → Int) : Nat → Nat → Nat → Int → Option (Int × Int × List Int)
  | 0, _, _, _ => none
  | d + 1, w, k, a => match w with
    | 0 => (PL g d 1 k a).bind fun s => if s.2.1 = -1 ∧ (g s.1 = 60 ∨ g s.1 = 62 ∨ g s.1 = 61) then (PL g d 1 k (s.1 + 1)).bind fun t => some (t.1, t.2.1, s.2.2 ++ t.2.2 ++ [2000 + g s.1]) else some s
    | 1 => (PL g d 2 k a).bind fun s => if s.2.1 = -1 then (PL g d 4 k s.1).bind fun t => some (t.1, t.2.1, s.2.2 ++ t.2.2) else some s
    | 2 => (PL g d 3 k a).bind fun s => if s.2.1 = -1 then (PL g d 5 k s.1).bind fun t => some (t.1, t.2.1, s.2.2 ++ t.2.2) else some s
    | 3 => if g a = 45 then PL g d 7 k (a + 1) else PL g d 6 k a
    | 4 => if g a = 43 ∨ g a = 45 then (PL g d 2 k (a + 1)).bind fun s => if s.2.1 = -1 then (PL g d 4 k s.1).bind fun t => some (t.1, t.2.1, s.2.2 ++ [2000 + g a] ++ t.2.2) else some s else some (a, -1, [])
    | 5 => if g a = 42 ∨ g a = 47 then (PL g d 3 k (a + 1)).bind fun s => if s.2.1 = -1 then (PL g d 5 k s.1).bind fun t => some (t.1, t.2.1, s.2.2 ++ [2000 + g a] ++ t.2.2) else some s else some (a, -1, [])
    | 6 => if 48 ≤ g a ∧ g a ≤ 57 then some (a + n3 g a, -1, [nvd g a (n3 g a)]) else if 0 ≤ lix (g a) then some (a + 1, -1, [1000 + lix (g a)]) else if g a = 40 ∧ k < 4 then (PL g d 0 (k + 1) (a + 1)).bind fun s => if s.2.1 = -1 then (if g s.1 = 41 then some (s.1 + 1, -1, s.2.2) else some (s.1, s.1, [])) else some s else some (a, a, [])
    | _ => if g a = 45 then PL g d 3 k (a + 1) else (PL g d 6 k a).bind fun s => some (s.1, s.2.1, s.2.2 ++ [2000])
/-- what is said when a part has been read -/
theorem PL_i0 {g : Int → Int} {d k : Nat} {a : Int} {r : Int × Int × List Int} (h : PL g (d + 1) 0 k a = some r) : ∃ s, PL g d 1 k a = some s ∧ ((s.2.1 = -1 ∧ (g s.1 = 60 ∨ g s.1 = 62 ∨ g s.1 = 61) ∧ ∃ t, PL g d 1 k (s.1 + 1) = some t ∧ r = (t.1, t.2.1, s.2.2 ++ t.2.2 ++ [2000 + g s.1])) ∨ (¬ (s.2.1 = -1 ∧ (g s.1 = 60 ∨ g s.1 = 62 ∨ g s.1 = 61)) ∧ r = s)) := by
  obtain ⟨s, e, h⟩ := ob (show (PL g d 1 k a).bind _ = some r from h)
  refine ⟨s, e, ?_⟩
  by_cases c : s.2.1 = -1 ∧ (g s.1 = 60 ∨ g s.1 = 62 ∨ g s.1 = 61)
  · rw [if_pos c] at h
    obtain ⟨t, e', h⟩ := ob h
    cases h
    exact Or.inl ⟨c.1, c.2, t, e', rfl⟩
  · rw [if_neg c] at h
    cases h
    exact Or.inr ⟨c, rfl⟩
theorem PL_i1 {g : Int → Int} {d k : Nat} {a : Int} {r : Int × Int × List Int} (h : PL g (d + 1) 1 k a = some r) : ∃ s, PL g d 2 k a = some s ∧ ((s.2.1 = -1 ∧ ∃ t, PL g d 4 k s.1 = some t ∧ r = (t.1, t.2.1, s.2.2 ++ t.2.2)) ∨ (¬ s.2.1 = -1 ∧ r = s)) := by
  obtain ⟨s, e, h⟩ := ob (show (PL g d 2 k a).bind _ = some r from h)
  refine ⟨s, e, ?_⟩
  by_cases c : s.2.1 = -1
  · rw [if_pos c] at h
    obtain ⟨t, e', h⟩ := ob h
    cases h
    exact Or.inl ⟨c, t, e', rfl⟩
  · rw [if_neg c] at h
    cases h
    exact Or.inr ⟨c, rfl⟩
theorem PL_i2 {g : Int → Int} {d k : Nat} {a : Int} {r : Int × Int × List Int} (h : PL g (d + 1) 2 k a = some r) : ∃ s, PL g d 3 k a = some s ∧ ((s.2.1 = -1 ∧ ∃ t, PL g d 5 k s.1 = some t ∧ r = (t.1, t.2.1, s.2.2 ++ t.2.2)) ∨ (¬ s.2.1 = -1 ∧ r = s)) := by
  obtain ⟨s, e, h⟩ := ob (show (PL g d 3 k a).bind _ = some r from h)
  refine ⟨s, e, ?_⟩
  by_cases c : s.2.1 = -1
  · rw [if_pos c] at h
    obtain ⟨t, e', h⟩ := ob h
    cases h
    exact Or.inl ⟨c, t, e', rfl⟩
  · rw [if_neg c] at h
    cases h
    exact Or.inr ⟨c, rfl⟩
theorem PL_i3 {g : Int → Int} {d k : Nat} {a : Int} {r : Int × Int × List Int} (h : PL g (d + 1) 3 k a = some r) : (g a = 45 ∧ PL g d 7 k (a + 1) = some r) ∨ (¬ g a = 45 ∧ PL g d 6 k a = some r) := by
  have h : (if g a = 45 then PL g d 7 k (a + 1) else PL g d 6 k a) = some r := h
  by_cases c : g a = 45
  · rw [if_pos c] at h; exact Or.inl ⟨c, h⟩
  · rw [if_neg c] at h; exact Or.inr ⟨c, h⟩
theorem PL_i7 {g : Int → Int} {d k : Nat} {a : Int} {r : Int × Int × List Int} (h : PL g (d + 1) 7 k a = some r) : (g a = 45 ∧ PL g d 3 k (a + 1) = some r) ∨ (¬ g a = 45 ∧ ∃ s, PL g d 6 k a = some s ∧ r = (s.1, s.2.1, s.2.2 ++ [2000])) := by
  have h : (if g a = 45 then PL g d 3 k (a + 1) else (PL g d 6 k a).bind fun s => some (s.1, s.2.1, s.2.2 ++ [2000])) = some r := h
  by_cases c : g a = 45
  · rw [if_pos c] at h; exact Or.inl ⟨c, h⟩
  · rw [if_neg c] at h
    obtain ⟨s, e, h⟩ := ob h
    cases h
    exact Or.inr ⟨c, s, e, rfl⟩
theorem PL_i4 {g : Int → Int} {d k : Nat} {a : Int} {r : Int × Int × List Int} (h : PL g (d + 1) 4 k a = some r) : ((g a = 43 ∨ g a = 45) ∧ ∃ s, PL g d 2 k (a + 1) = some s ∧ ((s.2.1 = -1 ∧ ∃ t, PL g d 4 k s.1 = some t ∧ r = (t.1, t.2.1, s.2.2 ++ [2000 + g a] ++ t.2.2)) ∨ (¬ s.2.1 = -1 ∧ r = s))) ∨ (¬ (g a = 43 ∨ g a = 45) ∧ r = (a, -1, [])) := by
  have h : (if g a = 43 ∨ g a = 45 then (PL g d 2 k (a + 1)).bind fun s => if s.2.1 = -1 then (PL g d 4 k s.1).bind fun t => some (t.1, t.2.1, s.2.2 ++ [2000 + g a] ++ t.2.2) else some s else some (a, -1, [])) = some r := h
  by_cases c : g a = 43 ∨ g a = 45
  · rw [if_pos c] at h
    obtain ⟨s, e, h⟩ := ob h
    refine Or.inl ⟨c, s, e, ?_⟩
    by_cases c2 : s.2.1 = -1
    · rw [if_pos c2] at h
      obtain ⟨t, e', h⟩ := ob h
      cases h
      exact Or.inl ⟨c2, t, e', rfl⟩
    · rw [if_neg c2] at h
      cases h
      exact Or.inr ⟨c2, rfl⟩
  · rw [if_neg c] at h
    cases h
    exact Or.inr ⟨c, rfl⟩
theorem PL_i5 {g : Int → Int} {d k : Nat} {a : Int} {r : Int × Int × List Int} (h : PL g (d + 1) 5 k a = some r) : ((g a = 42 ∨ g a = 47) ∧ ∃ s, PL g d 3 k (a + 1) = some s ∧ ((s.2.1 = -1 ∧ ∃ t, PL g d 5 k s.1 = some t ∧ r = (t.1, t.2.1, s.2.2 ++ [2000 + g a] ++ t.2.2)) ∨ (¬ s.2.1 = -1 ∧ r = s))) ∨ (¬ (g a = 42 ∨ g a = 47) ∧ r = (a, -1, [])) := by
  have h : (if g a = 42 ∨ g a = 47 then (PL g d 3 k (a + 1)).bind fun s => if s.2.1 = -1 then (PL g d 5 k s.1).bind fun t => some (t.1, t.2.1, s.2.2 ++ [2000 + g a] ++ t.2.2) else some s else some (a, -1, [])) = some r := h
  by_cases c : g a = 42 ∨ g a = 47
  · rw [if_pos c] at h
    obtain ⟨s, e, h⟩ := ob h
    refine Or.inl ⟨c, s, e, ?_⟩
    by_cases c2 : s.2.1 = -1
    · rw [if_pos c2] at h
      obtain ⟨t, e', h⟩ := ob h
      cases h
      exact Or.inl ⟨c2, t, e', rfl⟩
    · rw [if_neg c2] at h
      cases h
      exact Or.inr ⟨c2, rfl⟩
  · rw [if_neg c] at h
    cases h
    exact Or.inr ⟨c, rfl⟩
theorem PL_i6 {g : Int → Int} {d k : Nat} {a : Int} {r : Int × Int × List Int} (h : PL g (d + 1) 6 k a = some r) : ((48 ≤ g a ∧ g a ≤ 57) ∧ r = (a + n3 g a, -1, [nvd g a (n3 g a)])) ∨ (¬ (48 ≤ g a ∧ g a ≤ 57) ∧ 0 ≤ lix (g a) ∧ r = (a + 1, -1, [1000 + lix (g a)])) ∨ (¬ (48 ≤ g a ∧ g a ≤ 57) ∧ ¬ 0 ≤ lix (g a) ∧ (g a = 40 ∧ k < 4) ∧ ∃ s, PL g d 0 (k + 1) (a + 1) = some s ∧ ((s.2.1 = -1 ∧ g s.1 = 41 ∧ r = (s.1 + 1, -1, s.2.2)) ∨ (s.2.1 = -1 ∧ ¬ g s.1 = 41 ∧ r = (s.1, s.1, [])) ∨ (¬ s.2.1 = -1 ∧ r = s))) ∨ (¬ (48 ≤ g a ∧ g a ≤ 57) ∧ ¬ 0 ≤ lix (g a) ∧ ¬ (g a = 40 ∧ k < 4) ∧ r = (a, a, [])) := by
  have h : (if 48 ≤ g a ∧ g a ≤ 57 then some (a + n3 g a, -1, [nvd g a (n3 g a)]) else if 0 ≤ lix (g a) then some (a + 1, -1, [1000 + lix (g a)]) else if g a = 40 ∧ k < 4 then (PL g d 0 (k + 1) (a + 1)).bind fun s => if s.2.1 = -1 then (if g s.1 = 41 then some (s.1 + 1, -1, s.2.2) else some (s.1, s.1, [])) else some s else some (a, a, [])) = some r := h
  by_cases c : 48 ≤ g a ∧ g a ≤ 57
  · rw [if_pos c] at h; cases h; exact Or.inl ⟨c, rfl⟩
  rw [if_neg c] at h
  by_cases c1 : 0 ≤ lix (g a)
  · rw [if_pos c1] at h; cases h; exact Or.inr (Or.inl ⟨c, c1, rfl⟩)
  rw [if_neg c1] at h
  by_cases c2 : g a = 40 ∧ k < 4
  · rw [if_pos c2] at h
    obtain ⟨s, e, h⟩ := ob h
    refine Or.inr (Or.inr (Or.inl ⟨c, c1, c2, s, e, ?_⟩))
    by_cases c3 : s.2.1 = -1
    · rw [if_pos c3] at h
      by_cases c4 : g s.1 = 41
      · rw [if_pos c4] at h; cases h; exact Or.inl ⟨c3, c4, rfl⟩
      · rw [if_neg c4] at h; cases h; exact Or.inr (Or.inl ⟨c3, c4, rfl⟩)
    · rw [if_neg c3] at h; cases h; exact Or.inr (Or.inr ⟨c3, rfl⟩)
  · rw [if_neg c2] at h; cases h; exact Or.inr (Or.inr (Or.inr ⟨c, c1, c2, rfl⟩))
theorem lix_rng (x : Int) : -1 ≤ lix x ∧ lix x ≤ 6 := by
  unfold lix
  (repeat' split) <;> decide
theorem lix_0 {x : Int} (h : 0 ≤ lix x) : 97 ≤ x ∧ x ≤ 122 := by
  refine ⟨?_, ?_⟩
  · refine Int.not_lt.mp (fun q => ?_)
    rw [lix_off (Or.inl q)] at h
    omega
  · refine Int.not_lt.mp (fun q => ?_)
    rw [lix_off (Or.inr q)] at h
    omega
theorem n3_pos {g : Int → Int} {a : Int} (h : 48 ≤ g a ∧ g a ≤ 57) : 1 ≤ n3 g a ∧ n3 g a ≤ 3 := by
  refine ⟨?_, n3_is.1⟩
  unfold n3
  rw [if_pos h]
  split
  · split <;> omega
  · omega
theorem n3_lim {g : Int → Int} {lim a : Int} (hg : ∀ x, lim ≤ x → g x = -1) (h : a ≤ lim) : a + n3 g a ≤ lim := by
  have n := n3_is (g := g) (a := a)
  by_cases c : n3 g a = 0
  · rw [c]; omega
  · have h9 := n.2 (n3 g a - 1) (by omega)
    refine Int.not_lt.mp (fun q => ?_)
    rw [hg _ (show lim ≤ a + ((n3 g a - 1 : Nat) : Int) by omega)] at h9
    omega
def pl7 (w : Nat) : Int := if w = 7 then 1 else 0
/-- where a part stops, and how much it tells -/
def PLo (w : Nat) (lim a : Int) (r : Int × Int × List Int) : Prop := a ≤ r.1 ∧ r.1 ≤ lim ∧ (r.2.1 = -1 ∨ r.2.1 = r.1) ∧ (r.2.1 = -1 → (w ≠ 4 → w ≠ 5 → a + 1 ≤ r.1) ∧ (r.2.2.length : Int) + a ≤ r.1 + pl7 w)
set_option maxHeartbeats 2000000 in
theorem PL_ok {g : Int → Int} {lim : Int} (hg : ∀ x, lim ≤ x → g x = -1) : ∀ (d w k : Nat) (a : Int) (r : Int × Int × List Int), w < 8 → 0 ≤ a → a ≤ lim → PL g d w k a = some r → PLo w lim a r := by
  intro d
  induction d with
  | zero => intro w k a r hw h0 h1 h; cases h
  | succ d ih =>
    intro w k a r hw h0 h1 h
    have lt : ∀ x, g x ≠ -1 → x + 1 ≤ lim := fun x q => Int.not_lt.mp (fun q2 => q (hg x (by omega)))
    match w, hw with
    | 0, _ =>
      obtain ⟨s, e, h⟩ := PL_i0 h
      obtain ⟨s1, s2, s3, s4⟩ := ih 1 k a s (by omega) h0 h1 e
      rcases h with ⟨c, c2, t, e', rfl⟩ | ⟨c, rfl⟩
      · obtain ⟨t1, t2, t3, t4⟩ := ih 1 k (s.1 + 1) t (by omega) (by omega) (lt s.1 (by omega)) e'
        have s4 := s4 c
        refine ⟨by show a ≤ t.1; omega, t2, t3, fun q => ⟨fun _ _ => by show a + 1 ≤ t.1; omega, ?_⟩⟩
        have t4 := t4 q
        show (((s.2.2 ++ t.2.2 ++ [2000 + g s.1]).length : Nat) : Int) + a ≤ t.1 + 0
        rw [List.length_append, List.length_append, show [2000 + g s.1].length = 1 from rfl]
        have z4 : (s.2.2.length : Int) + a ≤ s.1 + 0 := s4.2
        have z5 : (t.2.2.length : Int) + (s.1 + 1) ≤ t.1 + 0 := t4.2
        omega
      · exact ⟨s1, s2, s3, fun q => ⟨fun _ _ => (s4 q).1 (by omega) (by omega), (s4 q).2⟩⟩
    | 1, _ =>
      obtain ⟨s, e, h⟩ := PL_i1 h
      obtain ⟨s1, s2, s3, s4⟩ := ih 2 k a s (by omega) h0 h1 e
      rcases h with ⟨c, t, e', rfl⟩ | ⟨c, rfl⟩
      · obtain ⟨t1, t2, t3, t4⟩ := ih 4 k s.1 t (by omega) (by omega) s2 e'
        have s4 := s4 c
        have s5 := s4.1 (by omega) (by omega)
        refine ⟨by show a ≤ t.1; omega, t2, t3, fun q => ⟨fun _ _ => by show a + 1 ≤ t.1; omega, ?_⟩⟩
        have t4 := t4 q
        show (((s.2.2 ++ t.2.2).length : Nat) : Int) + a ≤ t.1 + 0
        rw [List.length_append]
        have z4 : (s.2.2.length : Int) + a ≤ s.1 + 0 := s4.2
        have z5 : (t.2.2.length : Int) + s.1 ≤ t.1 + 0 := t4.2
        omega
      · exact ⟨s1, s2, s3, fun q => absurd q c⟩
    | 2, _ =>
      obtain ⟨s, e, h⟩ := PL_i2 h
      obtain ⟨s1, s2, s3, s4⟩ := ih 3 k a s (by omega) h0 h1 e
      rcases h with ⟨c, t, e', rfl⟩ | ⟨c, rfl⟩
      · obtain ⟨t1, t2, t3, t4⟩ := ih 5 k s.1 t (by omega) (by omega) s2 e'
        have s4 := s4 c
        have s5 := s4.1 (by omega) (by omega)
        refine ⟨by show a ≤ t.1; omega, t2, t3, fun q => ⟨fun _ _ => by show a + 1 ≤ t.1; omega, ?_⟩⟩
        have t4 := t4 q
        show (((s.2.2 ++ t.2.2).length : Nat) : Int) + a ≤ t.1 + 0
        rw [List.length_append]
        have z4 : (s.2.2.length : Int) + a ≤ s.1 + 0 := s4.2
        have z5 : (t.2.2.length : Int) + s.1 ≤ t.1 + 0 := t4.2
        omega
      · exact ⟨s1, s2, s3, fun q => absurd q c⟩
    | 3, _ =>
      rcases PL_i3 h with ⟨c, h⟩ | ⟨c, h⟩
      · obtain ⟨s1, s2, s3, s4⟩ := ih 7 k (a + 1) r (by omega) (by omega) (lt a (by omega)) h
        refine ⟨by omega, s2, s3, fun q => ⟨fun _ _ => by omega, ?_⟩⟩
        have z4 : (r.2.2.length : Int) + (a + 1) ≤ r.1 + 1 := (s4 q).2
        show (r.2.2.length : Int) + a ≤ r.1 + 0
        omega
      · obtain ⟨s1, s2, s3, s4⟩ := ih 6 k a r (by omega) h0 h1 h
        exact ⟨s1, s2, s3, fun q => ⟨fun _ _ => (s4 q).1 (by omega) (by omega), (s4 q).2⟩⟩
    | 4, _ =>
      rcases PL_i4 h with ⟨c, s, e, h⟩ | ⟨c, rfl⟩
      · have la := lt a (by omega)
        obtain ⟨s1, s2, s3, s4⟩ := ih 2 k (a + 1) s (by omega) (by omega) la e
        rcases h with ⟨c, t, e', rfl⟩ | ⟨c, rfl⟩
        · obtain ⟨t1, t2, t3, t4⟩ := ih 4 k s.1 t (by omega) (by omega) s2 e'
          have s4 := s4 c
          refine ⟨by show a ≤ t.1; omega, t2, t3, fun q => ⟨fun q2 => absurd rfl q2, ?_⟩⟩
          have t4 := t4 q
          show (((s.2.2 ++ [2000 + g a] ++ t.2.2).length : Nat) : Int) + a ≤ t.1 + 0
          rw [List.length_append, List.length_append, show [2000 + g a].length = 1 from rfl]
          have z4 : (s.2.2.length : Int) + (a + 1) ≤ s.1 + 0 := s4.2
          have z5 : (t.2.2.length : Int) + s.1 ≤ t.1 + 0 := t4.2
          omega
        · exact ⟨by omega, s2, s3, fun q => absurd q c⟩
      · exact ⟨by show a ≤ a; omega, h1, Or.inl rfl, fun q => ⟨fun q2 => absurd rfl q2, by show ((0 : Nat) : Int) + a ≤ a + 0; omega⟩⟩
    | 5, _ =>
      rcases PL_i5 h with ⟨c, s, e, h⟩ | ⟨c, rfl⟩
      · have la := lt a (by omega)
        obtain ⟨s1, s2, s3, s4⟩ := ih 3 k (a + 1) s (by omega) (by omega) la e
        rcases h with ⟨c, t, e', rfl⟩ | ⟨c, rfl⟩
        · obtain ⟨t1, t2, t3, t4⟩ := ih 5 k s.1 t (by omega) (by omega) s2 e'
          have s4 := s4 c
          refine ⟨by show a ≤ t.1; omega, t2, t3, fun q => ⟨fun _ q2 => absurd rfl q2, ?_⟩⟩
          have t4 := t4 q
          show (((s.2.2 ++ [2000 + g a] ++ t.2.2).length : Nat) : Int) + a ≤ t.1 + 0
          rw [List.length_append, List.length_append, show [2000 + g a].length = 1 from rfl]
          have z4 : (s.2.2.length : Int) + (a + 1) ≤ s.1 + 0 := s4.2
          have z5 : (t.2.2.length : Int) + s.1 ≤ t.1 + 0 := t4.2
          omega
        · exact ⟨by omega, s2, s3, fun q => absurd q c⟩
      · exact ⟨by show a ≤ a; omega, h1, Or.inl rfl, fun q => ⟨fun _ q2 => absurd rfl q2, by show ((0 : Nat) : Int) + a ≤ a + 0; omega⟩⟩
    | 6, _ =>
      rcases PL_i6 h with ⟨c, rfl⟩ | ⟨c, c1, rfl⟩ | ⟨c, c1, c2, s, e, h⟩ | ⟨c, c1, c2, rfl⟩
      · have np := n3_pos c
        have nl := n3_lim hg h1
        exact ⟨by show a ≤ a + n3 g a; omega, nl, Or.inl rfl, fun _ => ⟨fun _ _ => by show a + 1 ≤ a + n3 g a; omega, by show ((1 : Nat) : Int) + a ≤ a + n3 g a + 0; omega⟩⟩
      · have := lix_0 c1
        have la := lt a (by omega)
        exact ⟨by show a ≤ a + 1; omega, la, Or.inl rfl, fun _ => ⟨fun _ _ => by show a + 1 ≤ a + 1; omega, by show ((1 : Nat) : Int) + a ≤ a + 1 + 0; omega⟩⟩
      · have la := lt a (by omega)
        obtain ⟨s1, s2, s3, s4⟩ := ih 0 (k + 1) (a + 1) s (by omega) (by omega) la e
        rcases h with ⟨c3, c4, rfl⟩ | ⟨c3, c4, rfl⟩ | ⟨c3, rfl⟩
        · have ls := lt s.1 (by omega)
          have z4 : (s.2.2.length : Int) + (a + 1) ≤ s.1 + 0 := (s4 c3).2
          exact ⟨by show a ≤ s.1 + 1; omega, ls, Or.inl rfl, fun _ => ⟨fun _ _ => by show a + 1 ≤ s.1 + 1; omega, by show (s.2.2.length : Int) + a ≤ s.1 + 1 + 0; omega⟩⟩
        · exact ⟨by show a ≤ s.1; omega, s2, Or.inr rfl, fun q => by
            have q : s.1 = -1 := q
            omega⟩
        · exact ⟨by omega, s2, s3, fun q => absurd q c3⟩
      · exact ⟨by show a ≤ a; omega, h1, Or.inr rfl, fun q => by
          have q : a = -1 := q
          omega⟩
    | 7, _ =>
      rcases PL_i7 h with ⟨c, h⟩ | ⟨c, s, e, rfl⟩
      · obtain ⟨s1, s2, s3, s4⟩ := ih 3 k (a + 1) r (by omega) (by omega) (lt a (by omega)) h
        refine ⟨by omega, s2, s3, fun q => ⟨fun _ _ => by omega, ?_⟩⟩
        have z4 : (r.2.2.length : Int) + (a + 1) ≤ r.1 + 0 := (s4 q).2
        show (r.2.2.length : Int) + a ≤ r.1 + 1
        omega
      · obtain ⟨s1, s2, s3, s4⟩ := ih 6 k a s (by omega) h0 h1 e
        refine ⟨s1, s2, s3, fun q => ⟨fun _ _ => (s4 q).1 (by omega) (by omega), ?_⟩⟩
        show (((s.2.2 ++ [2000]).length : Nat) : Int) + a ≤ s.1 + 1
        rw [List.length_append, show [(2000 : Int)].length = 1 from rfl]
        have z4 : (s.2.2.length : Int) + a ≤ s.1 + 0 := (s4 q).2
        omega
def rkP (w : Nat) : Int := if w = 0 then 4 else if w = 1 then 3 else if w = 2 then 2 else if w = 3 ∨ w = 7 then 1 else 0
theorem sb {α β : Type} {o : Option α} {f : α → Option β} (h : ∃ a, o = some a) (g : ∀ a, o = some a → ∃ b, f a = some b) : ∃ b, o.bind f = some b := by
  obtain ⟨a, e⟩ := h
  obtain ⟨b, e'⟩ := g a e
  exact ⟨b, by rw [e]; exact e'⟩
set_option maxHeartbeats 2000000 in
/-- it is read to its end -/
theorem PL_tot {g : Int → Int} {lim : Int} (hg : ∀ x, lim ≤ x → g x = -1) : ∀ (d w k : Nat) (a : Int), w < 8 → 0 ≤ a → a ≤ lim → 6 * (lim - a) + rkP w < (d : Int) → ∃ r, PL g d w k a = some r := by
  intro d
  induction d with
  | zero =>
    intro w k a hw h0 h1 h
    have : 0 ≤ rkP w := by unfold rkP; (repeat' split) <;> decide
    omega
  | succ d ih =>
    intro w k a hw h0 h1 h
    have lt : ∀ x, g x ≠ -1 → x + 1 ≤ lim := fun x q => Int.not_lt.mp (fun q2 => q (hg x (by omega)))
    match w, hw with
    | 0, _ =>
      have h : 6 * (lim - a) + 4 < ((d + 1 : Nat) : Int) := h
      refine sb (ih 1 k a (by omega) h0 h1 (by show 6 * (lim - a) + 3 < (d : Int); omega)) (fun s e => ?_)
      obtain ⟨s1, s2, s3, s4⟩ := PL_ok hg d 1 k a s (by omega) h0 h1 e
      by_cases c : s.2.1 = -1 ∧ (g s.1 = 60 ∨ g s.1 = 62 ∨ g s.1 = 61)
      · rw [if_pos c]
        have s5 := (s4 c.1).1 (by omega) (by omega)
        exact sb (ih 1 k (s.1 + 1) (by omega) (by omega) (lt s.1 (by omega)) (by show 6 * (lim - (s.1 + 1)) + 3 < (d : Int); omega)) (fun t _ => ⟨_, rfl⟩)
      · rw [if_neg c]; exact ⟨_, rfl⟩
    | 1, _ =>
      have h : 6 * (lim - a) + 3 < ((d + 1 : Nat) : Int) := h
      refine sb (ih 2 k a (by omega) h0 h1 (by show 6 * (lim - a) + 2 < (d : Int); omega)) (fun s e => ?_)
      obtain ⟨s1, s2, s3, s4⟩ := PL_ok hg d 2 k a s (by omega) h0 h1 e
      by_cases c : s.2.1 = -1
      · rw [if_pos c]
        have s5 := (s4 c).1 (by omega) (by omega)
        exact sb (ih 4 k s.1 (by omega) (by omega) s2 (by show 6 * (lim - s.1) + 0 < (d : Int); omega)) (fun t _ => ⟨_, rfl⟩)
      · rw [if_neg c]; exact ⟨_, rfl⟩
    | 2, _ =>
      have h : 6 * (lim - a) + 2 < ((d + 1 : Nat) : Int) := h
      refine sb (ih 3 k a (by omega) h0 h1 (by show 6 * (lim - a) + 1 < (d : Int); omega)) (fun s e => ?_)
      obtain ⟨s1, s2, s3, s4⟩ := PL_ok hg d 3 k a s (by omega) h0 h1 e
      by_cases c : s.2.1 = -1
      · rw [if_pos c]
        have s5 := (s4 c).1 (by omega) (by omega)
        exact sb (ih 5 k s.1 (by omega) (by omega) s2 (by show 6 * (lim - s.1) + 0 < (d : Int); omega)) (fun t _ => ⟨_, rfl⟩)
      · rw [if_neg c]; exact ⟨_, rfl⟩
    | 3, _ =>
      have h : 6 * (lim - a) + 1 < ((d + 1 : Nat) : Int) := h
      show ∃ r, (if g a = 45 then PL g d 7 k (a + 1) else PL g d 6 k a) = some r
      by_cases c : g a = 45
      · rw [if_pos c]
        exact ih 7 k (a + 1) (by omega) (by omega) (lt a (by omega)) (by show 6 * (lim - (a + 1)) + 1 < (d : Int); omega)
      · rw [if_neg c]
        exact ih 6 k a (by omega) h0 h1 (by show 6 * (lim - a) + 0 < (d : Int); omega)
    | 4, _ =>
      have h : 6 * (lim - a) + 0 < ((d + 1 : Nat) : Int) := h
      show ∃ r, (if g a = 43 ∨ g a = 45 then (PL g d 2 k (a + 1)).bind fun s => if s.2.1 = -1 then (PL g d 4 k s.1).bind fun t => some (t.1, t.2.1, s.2.2 ++ [2000 + g a] ++ t.2.2) else some s else some (a, -1, [])) = some r
      by_cases c : g a = 43 ∨ g a = 45
      · rw [if_pos c]
        have la := lt a (by omega)
        refine sb (ih 2 k (a + 1) (by omega) (by omega) la (by show 6 * (lim - (a + 1)) + 2 < (d : Int); omega)) (fun s e => ?_)
        obtain ⟨s1, s2, s3, s4⟩ := PL_ok hg d 2 k (a + 1) s (by omega) (by omega) la e
        by_cases c : s.2.1 = -1
        · rw [if_pos c]
          exact sb (ih 4 k s.1 (by omega) (by omega) s2 (by show 6 * (lim - s.1) + 0 < (d : Int); omega)) (fun t _ => ⟨_, rfl⟩)
        · rw [if_neg c]; exact ⟨_, rfl⟩
      · rw [if_neg c]; exact ⟨_, rfl⟩
    | 5, _ =>
      have h : 6 * (lim - a) + 0 < ((d + 1 : Nat) : Int) := h
      show ∃ r, (if g a = 42 ∨ g a = 47 then (PL g d 3 k (a + 1)).bind fun s => if s.2.1 = -1 then (PL g d 5 k s.1).bind fun t => some (t.1, t.2.1, s.2.2 ++ [2000 + g a] ++ t.2.2) else some s else some (a, -1, [])) = some r
      by_cases c : g a = 42 ∨ g a = 47
      · rw [if_pos c]
        have la := lt a (by omega)
        refine sb (ih 3 k (a + 1) (by omega) (by omega) la (by show 6 * (lim - (a + 1)) + 1 < (d : Int); omega)) (fun s e => ?_)
        obtain ⟨s1, s2, s3, s4⟩ := PL_ok hg d 3 k (a + 1) s (by omega) (by omega) la e
        by_cases c : s.2.1 = -1
        · rw [if_pos c]
          exact sb (ih 5 k s.1 (by omega) (by omega) s2 (by show 6 * (lim - s.1) + 0 < (d : Int); omega)) (fun t _ => ⟨_, rfl⟩)
        · rw [if_neg c]; exact ⟨_, rfl⟩
      · rw [if_neg c]; exact ⟨_, rfl⟩
    | 6, _ =>
      have h : 6 * (lim - a) + 0 < ((d + 1 : Nat) : Int) := h
      show ∃ r, (if 48 ≤ g a ∧ g a ≤ 57 then some (a + n3 g a, -1, [nvd g a (n3 g a)]) else if 0 ≤ lix (g a) then some (a + 1, -1, [1000 + lix (g a)]) else if g a = 40 ∧ k < 4 then (PL g d 0 (k + 1) (a + 1)).bind fun s => if s.2.1 = -1 then (if g s.1 = 41 then some (s.1 + 1, -1, s.2.2) else some (s.1, s.1, [])) else some s else some (a, a, [])) = some r
      by_cases c : 48 ≤ g a ∧ g a ≤ 57
      · rw [if_pos c]; exact ⟨_, rfl⟩
      rw [if_neg c]
      by_cases c1 : 0 ≤ lix (g a)
      · rw [if_pos c1]; exact ⟨_, rfl⟩
      rw [if_neg c1]
      by_cases c2 : g a = 40 ∧ k < 4
      · rw [if_pos c2]
        refine sb (ih 0 (k + 1) (a + 1) (by omega) (by omega) (lt a (by omega)) (by show 6 * (lim - (a + 1)) + 4 < (d : Int); omega)) (fun s e => ?_)
        by_cases c3 : s.2.1 = -1
        · rw [if_pos c3]
          by_cases c4 : g s.1 = 41
          · rw [if_pos c4]; exact ⟨_, rfl⟩
          · rw [if_neg c4]; exact ⟨_, rfl⟩
        · rw [if_neg c3]; exact ⟨_, rfl⟩
      · rw [if_neg c2]; exact ⟨_, rfl⟩
    | 7, _ =>
      have h : 6 * (lim - a) + 1 < ((d + 1 : Nat) : Int) := h
      show ∃ r, (if g a = 45 then PL g d 3 k (a + 1) else (PL g d 6 k a).bind fun s => some (s.1, s.2.1, s.2.2 ++ [2000])) = some r
      by_cases c : g a = 45
      · rw [if_pos c]
        exact ih 3 k (a + 1) (by omega) (by omega) (lt a (by omega)) (by show 6 * (lim - (a + 1)) + 1 < (d : Int); omega)
      · rw [if_neg c]
        exact sb (ih 6 k a (by omega) h0 h1 (by show 6 * (lim - a) + 0 < (d : Int); omega)) (fun s _ => ⟨_, rfl⟩)
/-- what law() answers to a text of s signs (of a LAW that there is) -/
noncomputable def lwR (f : Nat → Int32) (s : Int) : Int × Int × List Int := (PL (GS f (min s 40)) 300 0 0 0).getD (0, 0, [])
noncomputable def lwA (f : Nat → Int32) (s : Int) : Int := if s ≤ 0 then 0 else if (lwR f s).2.1 = -1 then (if (lwR f s).1 < s then -1 - (lwR f s).1 else 0) else -1 - (lwR f s).2.1
theorem lwR_is {f : Nat → Int32} {s : Int} (h0 : 0 ≤ s) : PL (GS f (min s 40)) 300 0 0 0 = some (lwR f s) ∧ PLo 0 (min s 40) 0 (lwR f s) := by
  have hg : ∀ x, min s 40 ≤ x → GS f (min s 40) x = -1 := fun x hx => GS_out hx
  obtain ⟨r, e⟩ := PL_tot hg 300 0 0 0 (by omega) (by omega) (by omega) (by show 6 * (min s 40 - 0) + 4 < ((300 : Nat) : Int); omega)
  have e2 : lwR f s = r := by unfold lwR; rw [e]; rfl
  rw [e2]
  exact ⟨e, PL_ok hg 300 0 0 0 r (by omega) (by omega) (by omega) e⟩
theorem GSx {f : Nat → Int32} {lim : Int} : ∀ x, lim ≤ x → GS f lim x = -1 := fun _ hx => GS_out hx
theorem GSlt {f : Nat → Int32} {lim x : Int} (h : GS f lim x ≠ -1) : x + 1 ≤ lim := Int.not_lt.mp (fun q => h (GS_out (by omega)))
theorem u16_id {x : Int32} {v : Int} (h : x.toInt = v) (h0 : 0 ≤ v) (h1 : v ≤ 255) : ((x.toUInt32 % 65536).toInt32) = x := by
  have hx : x.toBitVec.toNat = v.toNat := by
    have h2 : x.toInt = x.toBitVec.toInt := rfl
    have hl := x.toBitVec.isLt
    rw [h2, BitVec.toInt_eq_toNat_cond] at h
    split at h <;> omega
  have e : x.toUInt32 % 65536 = x.toUInt32 := by
    apply UInt32.toNat_inj.mp
    rw [UInt32.toNat_mod]
    have : x.toUInt32.toNat = x.toBitVec.toNat := rfl
    rw [this, hx, show (65536 : UInt32).toNat = 65536 from rfl]
    omega
  rw [e]
  rfl
end
section
/-! ===== the class reads a LAW ===== -/
def TLw (Z : jZ) (I0 : jI) (v0 v1 uB uD : Nat) (lim : Int) : Prop := WD Z I0 ∧ jk Z v0 3 ∧ jk Z v1 10 ∧ jr Z v1 0 = some uB ∧ jk Z uB 13 ∧ (0 ≤ lim ∧ lim ≤ (I0 v1 1).toInt ∧ (I0 v1 1).toInt ≤ 80 ∧ lim ≤ 40) ∧ BY (I0 uB) ∧ jr Z v0 1 = some uD ∧ jk Z uD 14
/-- the reader at place a, fault F, c told -/
def LSw (Z : jZ) (I0 : jI) (v0 uD : Nat) (lim : Int) (I : jI) (a F : Int) (c : List Int) : Prop := WD Z I ∧ FR Ws_R3 Z I0 Z I ∧ (I v0 6).toInt = a ∧ (I v0 8).toInt = F ∧ (I v0 7).toInt = lim ∧ (F = -1 → (I v0 5).toInt = (c.length : Int) ∧ ∀ i : Nat, i < c.length → c[i]? = some (I uD i).toInt) ∧ (∀ b, b ≠ v0 → b ≠ uD → I b = I0 b)
theorem LSw_txt {Z : jZ} {I0 I : jI} {v0 v1 uB uD : Nat} {lim a F : Int} {c : List Int} (t : TLw Z I0 v0 v1 uB uD lim) (s : LSw Z I0 v0 uD lim I a F c) : I v1 1 = I0 v1 1 ∧ I uB = I0 uB := by
  obtain ⟨w0, k0, k1, hB, kB, -⟩ := t
  exact ⟨s.2.1.2.2.1 v1 10 1 k1 (by decide) (by decide), s.2.1.2.2.2 v1 10 0 uB k1 hB (by rw [kB.2]; rfl) rfl (by decide)⟩
theorem LSw_at {Z : jZ} {I0 I : jI} {v0 v1 uB uD : Nat} {lim a F : Int} {c : List Int} (t : TLw Z I0 v0 v1 uB uD lim) (s : LSw Z I0 v0 uD lim I a F c) (h0 : 0 ≤ a ∧ a ≤ 100) : LSw Z I0 v0 uD lim (jpI I v0 6 ((I v0 6) + (1 : Int32))) (a + 1) F c := by
  obtain ⟨w0, k0, k1, hB, kB, hl, hb, hD, kD⟩ := t
  have nD : uD ≠ v0 := ks_ne kD k0 (by decide)
  refine ⟨WD_putF s.1 3 6 k0 (by decide) (by decide) trivial, s.2.1.trans w0.1 w0.2.1 (FR_putF k0 (by decide) (by decide)), ?_, ?_, ?_, fun q => ?_, fun b h1 h2 => (jpI_ne h1).trans (s.2.2.2.2.2.2 b h1 h2)⟩
  · rw [jpI_at]; exact i_add s.2.2.1 (show (1 : Int32).toInt = 1 from rfl) (by omega) (by omega)
  · rw [jpI_o (by decide)]; exact s.2.2.2.1
  · rw [jpI_o (by decide)]; exact s.2.2.2.2.1
  · obtain ⟨q1, q2⟩ := s.2.2.2.2.2.1 q
    refine ⟨by rw [jpI_o (by decide)]; exact q1, fun i hi => ?_⟩
    rw [jpI_ne nD]
    exact q2 i hi
/-- a fault is told -/
theorem LSw_flt {Z : jZ} {I0 I : jI} {v0 v1 uB uD : Nat} {lim a F : Int} {c c' : List Int} {y : Int32} (t : TLw Z I0 v0 v1 uB uD lim) (s : LSw Z I0 v0 uD lim I a F c) (hy : 0 ≤ y.toInt) : LSw Z I0 v0 uD lim (jpI I v0 8 y) a y.toInt c' := by
  obtain ⟨w0, k0, k1, hB, kB, hl, hb, hD, kD⟩ := t
  refine ⟨WD_putF s.1 3 8 k0 (by decide) (by decide) trivial, s.2.1.trans w0.1 w0.2.1 (FR_putF k0 (by decide) (by decide)), ?_, ?_, ?_, fun q => by omega, fun b h1 h2 => (jpI_ne h1).trans (s.2.2.2.2.2.2 b h1 h2)⟩
  · rw [jpI_o (by decide)]; exact s.2.2.1
  · rw [jpI_at]
  · rw [jpI_o (by decide)]; exact s.2.2.2.2.1
theorem LSw_any {Z : jZ} {I0 I : jI} {v0 uD : Nat} {lim a F : Int} {c c' : List Int} (s : LSw Z I0 v0 uD lim I a F c) (h : F ≠ -1) : LSw Z I0 v0 uD lim I a F c' := ⟨s.1, s.2.1, s.2.2.1, s.2.2.2.1, s.2.2.2.2.1, fun q => absurd q h, s.2.2.2.2.2.2⟩
theorem l_look {Z : jZ} {I0 I : jI} {L : jL} {v0 v1 uB uD : Nat} {lim a F : Int} {c : List Int} {Q : Int32 → jI → jL → Prop} (t : TLw Z I0 v0 v1 uB uD lim) (s : LSw Z I0 v0 uD lim I a F c) (h0 : 0 ≤ a) (h : ∀ r : Int32, CLk (GS (I0 uB) lim a) r.toInt → -1 ≤ r.toInt → r.toInt ≤ 255 → Q r I L) : f_X3_look v0 v1 Z I L Q := by
  obtain ⟨e1, e2⟩ := LSw_txt t s
  obtain ⟨w0, k0, k1, hB, kB, hl, hb, hD, kD⟩ := t
  obtain ⟨w, f, sa, sF, sl, -⟩ := s
  unfold f_X3_look
  refine ⟨fun c => h _ ?_ (by decide) (by decide), fun c => ?_⟩
  · exact CLk_out ((i_le sl sa).mp c)
  have c := (not_congr (i_le sl sa)).mp c
  unfold f_X10_signAt
  refine ⟨fun c1 => ?_, fun c1 => ⟨fun c2 => ?_, fun c2 => ⟨fun c3 => ?_, fun c3 => ?_⟩⟩⟩
  · have := (i_lt sa (show (0 : Int32).toInt = 0 from rfl)).mp c1
    omega
  · rw [e1] at c2
    have := (i_le rfl sa).mp c2
    omega
  · have := (i_le (show (80 : Int32).toInt = 80 from rfl) sa).mp c3
    omega
  · intro b eb
    cases hB.symm.trans eb
    have e9 := i_and255 (x := I uB (I v0 6).toNatClampNeg)
    refine ⟨vi_of sa (by omega) (by omega), h _ ?_ (by omega) (by omega)⟩
    rw [e2]
    have := CLk_in (f := I0 uB) (lim := lim) (x := I v0 6) hb (by omega) (by omega)
    rw [sa] at this
    exact this
theorem l_ahead {Z : jZ} {I0 I : jI} {L : jL} {v0 v1 uB uD : Nat} {lim a F k2 k3 : Int} {c : List Int} {v2 v3 : Int32} {Q : Int32 → jI → jL → Prop} (t : TLw Z I0 v0 v1 uB uD lim) (s : LSw Z I0 v0 uD lim I a F c) (h0 : 0 ≤ a) (e2 : v2.toInt = k2) (e3 : v3.toInt = k3) (hk : (0 ≤ k2 ∧ k2 ≤ 127) ∧ 0 ≤ k3 ∧ k3 ≤ 127) (h1 : F = -1 → (GS (I0 uB) lim a = k2 ∨ GS (I0 uB) lim a = k3) → Q 1 I L) (h2 : (F ≠ -1 ∨ ¬ (GS (I0 uB) lim a = k2 ∨ GS (I0 uB) lim a = k3)) → Q 0 I L) : f_X3_isAhead v0 v1 v2 v3 Z I L Q := by
  unfold f_X3_isAhead
  refine l_look t s h0 (fun r hr r0 r1 => ⟨fun g => h2 (Or.inl ((not_congr (i_eq s.2.2.2.1 (show (-1 : Int32).toInt = -1 from rfl))).mp g)), fun g => ?_⟩)
  have g := (i_eq s.2.2.2.1 (show (-1 : Int32).toInt = -1 from rfl)).mp g
  unfold CLk at hr
  refine ⟨fun q => ?_, fun q => ⟨fun q2 => ?_, fun q2 => ?_⟩⟩
  · have q := (i_eq (x := r) rfl e2).mp q
    unfold f_X3_isAhead_b27
    exact h1 g (Or.inl (by omega))
  · have q := (not_congr (i_eq (x := r) rfl e2)).mp q
    have q2 := (not_congr (i_eq (x := r) rfl e3)).mp q2
    exact h2 (Or.inr (by omega))
  · have q2 := (i_eq (x := r) rfl e3).mp q2
    unfold f_X3_isAhead_b27
    exact h1 g (Or.inr (by omega))
theorem l_emit {Z : jZ} {I0 I : jI} {L : jL} {v0 v1 uB uD : Nat} {lim a : Int} {c : List Int} {x : Int32} {v : Int} {Q : jI → jL → Prop} (t : TLw Z I0 v0 v1 uB uD lim) (s : LSw Z I0 v0 uD lim I a (-1) c) (hc : c.length ≤ 39) (ex : x.toInt = v) (h : ∀ I', LSw Z I0 v0 uD lim I' a (-1) (c ++ [v]) → Q I' L) : f_X3_emit v0 x Z I L Q := by
  obtain ⟨w0, k0, k1, hB, kB, hl, hb, hD, kD⟩ := t
  obtain ⟨w, f, sa, sF, sl, sc, sx⟩ := s
  obtain ⟨q1, q2⟩ := sc rfl
  have nD : uD ≠ v0 := ks_ne kD k0 (by decide)
  unfold f_X3_emit
  refine ⟨fun g => absurd ((i_eq sF (show (-1 : Int32).toInt = -1 from rfl)).mpr rfl) g, fun _ => ⟨fun g => ?_, fun _ => ?_⟩⟩
  · have := (i_le (show (40 : Int32).toInt = 40 from rfl) q1).mp g
    omega
  intro b eb
  cases hD.symm.trans eb
  refine ⟨vi_of q1 (by omega) (by omega), ?_⟩
  intro I5 e5 I6 e6
  have n5 : (I v0 5).toNatClampNeg = c.length := by have := i_nat q1 (by omega); omega
  have y5 : I5 v0 = I v0 := by rw [e5]; exact jpI_ne (fun e => nD e.symm)
  have d5 : I5 uD = upd (I uD) c.length x := by rw [e5, n5]; exact va_up_self _ _ _
  have w5 : WD Z I5 := by rw [e5]; exact WD_putA w 3 1 k0 hD kD rfl rfl (by decide) trivial
  have f5 : FR Ws_R3 Z I0 Z I5 := f.trans w0.1 w0.2.1 (by rw [e5]; exact FR_upA w.2.1 k0 hD kD rfl rfl (by decide))
  have t6 : ((I5 v0 5) + (1 : Int32)).toInt = (c.length : Int) + 1 := i_add (by rw [y5]; exact q1) (show (1 : Int32).toInt = 1 from rfl) (by omega) (by omega)
  rw [e6]
  refine h _ ⟨WD_putF w5 3 5 k0 (by decide) (by decide) (show rg 0 40 _ from ⟨by rw [t6]; omega, by rw [t6]; omega⟩), f5.trans w0.1 w0.2.1 (FR_putF k0 (by decide) (by decide)), ?_, ?_, ?_, fun _ => ⟨?_, fun i hi => ?_⟩, fun b h1 h2 => ((jpI_ne h1).trans (by rw [e5]; exact jpI_ne h2)).trans (sx b h1 h2)⟩
  · rw [jpI_o (by decide), y5]; exact sa
  · rw [jpI_o (by decide), y5]; exact sF
  · rw [jpI_o (by decide), y5]; exact sl
  · rw [jpI_at, t6, List.length_append]; rfl
  · rw [List.length_append] at hi
    have hi : i < c.length + 1 := hi
    rw [jpI_ne nD, d5]
    by_cases ci : i = c.length
    · rw [ci, show upd (I uD) c.length x c.length = x from if_pos rfl, List.getElem?_append_right (Nat.le_refl _), Nat.sub_self, ex]
      rfl
    · rw [show upd (I uD) c.length x i = I uD i from if_neg ci, List.getElem?_append_left (by omega)]
      exact q2 i (by omega)
theorem l_emitD {Z : jZ} {I0 I : jI} {L : jL} {v0 uD : Nat} {lim a F : Int} {c : List Int} {x : Int32} {Q : jI → jL → Prop} (s : LSw Z I0 v0 uD lim I a F c) (hF : F ≠ -1) (h : Q I L) : f_X3_emit v0 x Z I L Q := by
  unfold f_X3_emit
  exact ⟨fun _ => h, fun g => absurd ((i_eq s.2.2.2.1 (show (-1 : Int32).toInt = -1 from rfl)).mp g) hF⟩
set_option maxHeartbeats 1000000 in
theorem l_num {Z : jZ} {I0 : jI} {L : jL} {v0 v1 uB uD : Nat} {lim a : Int} {c : List Int} {Q : jI → jL → Prop} (t : TLw Z I0 v0 v1 uB uD lim) (h0 : 0 ≤ a ∧ a ≤ 40) (hc : c.length ≤ 39) (h : ∀ I', LSw Z I0 v0 uD lim I' (a + n3 (GS (I0 uB) lim) a) (-1) (c ++ [nvd (GS (I0 uB) lim) a (n3 (GS (I0 uB) lim) a)]) → Q I' L) :
    ∀ (m : Nat) (v2 v3 : Int32) (d : Nat) (I : jI), LSw Z I0 v0 uD lim I (a + d) (-1) c → N3 (GS (I0 uB) lim) a d → v3.toInt = (d : Int) → v2.toInt = nvd (GS (I0 uB) lim) a d → 4 ≤ m + d → f_X3_readNumber_L4 Z Q m v0 v1 v2 v3 I L := by
  have fin : ∀ (v2 : Int32) (d : Nat) (I : jI), LSw Z I0 v0 uD lim I (a + d) (-1) c → v2.toInt = nvd (GS (I0 uB) lim) a d → n3 (GS (I0 uB) lim) a = d → f_X3_readNumber_b50 Z Q v0 v2 I L := by
    intro v2 d I s e2 en
    unfold f_X3_readNumber_b50
    rw [← en] at s e2
    exact l_emit t s hc e2 h
  intro m
  induction m with
  | zero => intro v2 v3 d I s hN e3 e2 hm; have := hN.1; omega
  | succ m ih =>
    intro v2 v3 d I s hN e3 e2 hm
    have hd := hN.1
    have hv := N3_val hN
    unfold f_X3_readNumber_L4
    refine ⟨fun g => ?_, fun g => ?_⟩
    · have g := (i_le (show (3 : Int32).toInt = 3 from rfl) e3).mp g
      exact fin v2 d I s e2 (N3_end hN (Or.inl (by omega)))
    have g := (not_congr (i_le (show (3 : Int32).toInt = 3 from rfl) e3)).mp g
    refine l_look t s (by omega) (fun r hr r0 r1 => ?_)
    unfold CLk at hr
    have stop : ¬ (48 ≤ GS (I0 uB) lim (a + d) ∧ GS (I0 uB) lim (a + d) ≤ 57) → f_X3_readNumber_b50 Z Q v0 v2 I L := fun hn => fin v2 d I s e2 (N3_end hN (Or.inr hn))
    unfold f_X10_isDigit
    refine ⟨fun c1 => ?_, fun c1 => ⟨fun c2 => ?_, fun c2 => ?_⟩⟩
    · have c1 := (i_lt (x := r) (y := 48) rfl (show (48 : Int32).toInt = 48 from rfl)).mp c1
      exact ⟨fun _ => stop (by omega), fun e => absurd rfl e⟩
    · have c2 := (i_lt (x := 57) (y := r) (show (57 : Int32).toInt = 57 from rfl) rfl).mp c2
      exact ⟨fun _ => stop (by omega), fun e => absurd rfl e⟩
    · have c1 := (not_congr (i_lt (x := r) (y := 48) rfl (show (48 : Int32).toInt = 48 from rfl))).mp c1
      have c2 := (not_congr (i_lt (x := 57) (y := r) (show (57 : Int32).toInt = 57 from rfl) rfl)).mp c2
      have hg : GS (I0 uB) lim (a + d) = r.toInt := by omega
      refine ⟨fun e => absurd e (by decide), fun _ => ?_⟩
      refine l_look t s (by omega) (fun r2 hr2 _ _ => ?_)
      unfold CLk at hr2
      have hg2 : r2.toInt = r.toInt := by omega
      intro x30 e30 I31 e31 x32 e32
      rw [e31]
      have d30 : x30.toInt = nvd (GS (I0 uB) lim) a (d + 1) := by
        show x30.toInt = nvd (GS (I0 uB) lim) a d * 10 + GS (I0 uB) lim (a + d) - 48
        rw [e30]
        exact (i_sub (i_add (i_mul e2 (show (10 : Int32).toInt = 10 from rfl) (by omega) (by omega)) hg2 (by omega) (by omega)) (show (48 : Int32).toInt = 48 from rfl) (by omega) (by omega)).trans (by omega)
      have d32 : x32.toInt = ((d + 1 : Nat) : Int) := by
        rw [e32]
        exact (i_add e3 (show (1 : Int32).toInt = 1 from rfl) (by omega) (by omega)).trans (by omega)
      have s2 := LSw_at t s (by omega)
      rw [show a + (d : Int) + 1 = a + ((d + 1 : Nat) : Int) by omega] at s2
      exact ih x30 x32 (d + 1) _ s2 (N3_step hN (by omega) (by omega)) d32 d30 (by omega)
theorem l_number {Z : jZ} {I0 I : jI} {L : jL} {v0 v1 uB uD : Nat} {lim a : Int} {c : List Int} {Q : jI → jL → Prop} (t : TLw Z I0 v0 v1 uB uD lim) (s : LSw Z I0 v0 uD lim I a (-1) c) (h0 : 0 ≤ a ∧ a ≤ 40) (hc : c.length ≤ 39) (h : ∀ I', LSw Z I0 v0 uD lim I' (a + n3 (GS (I0 uB) lim) a) (-1) (c ++ [nvd (GS (I0 uB) lim) a (n3 (GS (I0 uB) lim) a)]) → Q I' L) : f_X3_readNumber v0 v1 Z I L Q := by
  unfold f_X3_readNumber
  refine ⟨4, l_num t h0 hc h 4 0 0 0 I (by rw [show a + ((0 : Nat) : Int) = a by omega]; exact s) N3_0 rfl rfl (by omega)⟩
theorem l_closing {Z : jZ} {I0 I : jI} {L : jL} {v0 v1 uB uD : Nat} {lim a F : Int} {c c' : List Int} {Q : jI → jL → Prop} (t : TLw Z I0 v0 v1 uB uD lim) (s : LSw Z I0 v0 uD lim I a F c) (h0 : 0 ≤ a ∧ a ≤ 40) (h1 : F = -1 → GS (I0 uB) lim a = 41 → ∀ I', LSw Z I0 v0 uD lim I' (a + 1) (-1) c → Q I' L) (h2 : F = -1 → ¬ GS (I0 uB) lim a = 41 → ∀ I', LSw Z I0 v0 uD lim I' a a c' → Q I' L) (h3 : F ≠ -1 → Q I L) : f_X3_readClosing v0 v1 Z I L Q := by
  unfold f_X3_readClosing
  refine l_ahead (k2 := 41) (k3 := 41) t s h0.1 rfl rfl (by omega) (fun g1 g2 => ⟨fun e => absurd e (by decide), fun _ => ?_⟩) (fun g => ⟨fun _ => ⟨fun q => ?_, fun q => ?_⟩, fun e => absurd rfl e⟩)
  · intro I11 e11
    rw [e11]
    subst g1
    exact h1 rfl (by omega) _ (LSw_at t s (by omega))
  · exact h3 ((not_congr (i_eq s.2.2.2.1 (show (-1 : Int32).toInt = -1 from rfl))).mp q)
  · have q := (i_eq s.2.2.2.1 (show (-1 : Int32).toInt = -1 from rfl)).mp q
    intro I10 e10
    rw [e10]
    have s2 := LSw_flt (c' := c') (y := I v0 6) t s (by rw [s.2.2.1]; omega)
    rw [s.2.2.1] at s2
    exact h2 q (by omega) _ s2
/-- the loops stop at a fault -/
theorem l_sumF {Z : jZ} {I0 I : jI} {L : jL} {D : FTR3} {v0 v1 uB uD m : Nat} {lim a F : Int} {c : List Int} {v2 v3 : Int32} {Q : jI → jL → Prop} (t : TLw Z I0 v0 v1 uB uD lim) (s : LSw Z I0 v0 uD lim I a F c) (h0 : 0 ≤ a) (hF : F ≠ -1) (h : Q I L) : fs_X3_readSum_L8 D Z Q (m + 1) v0 v1 v2 v3 I L := by
  unfold fs_X3_readSum_L8
  exact ⟨fun _ => h, fun _ => l_ahead (k2 := 43) (k3 := 45) t s h0 rfl rfl (by omega) (fun g => absurd g hF) (fun _ => ⟨fun _ => h, fun e => absurd rfl e⟩)⟩
theorem l_prodF {Z : jZ} {I0 I : jI} {L : jL} {D : FTR3} {v0 v1 uB uD m : Nat} {lim a F : Int} {c : List Int} {v2 v3 : Int32} {Q : jI → jL → Prop} (t : TLw Z I0 v0 v1 uB uD lim) (s : LSw Z I0 v0 uD lim I a F c) (h0 : 0 ≤ a) (hF : F ≠ -1) (h : Q I L) : fs_X3_readProduct_L8 D Z Q (m + 1) v0 v1 v2 v3 I L := by
  unfold fs_X3_readProduct_L8
  exact ⟨fun _ => h, fun _ => l_ahead (k2 := 42) (k3 := 47) t s h0 rfl rfl (by omega) (fun g => absurd g hF) (fun _ => ⟨fun _ => h, fun e => absurd rfl e⟩)⟩
theorem l_op {x y : Int32} {v : Int} (hx : x.toInt = v) (h : 0 ≤ v ∧ v ≤ 255) : ((2000 : Int32) + x).toInt = 2000 + v := i_add (show (2000 : Int32).toInt = 2000 from rfl) hx (by omega) (by omega)
/-- what each part of the reader does, by what the text says -/
def LC1 (Z : jZ) (I0 : jI) (v0 v1 uB uD : Nat) (lim : Int) (d w cw : Nat) : Prop := ∀ (D k : Nat) (a : Int) (r : Int × Int × List Int) (c : List Int) (v2 : Int32) (I : jI) (L : jL) (Q : jI → jL → Prop), PL (GS (I0 uB) lim) d w k a = some r → LSw Z I0 v0 uD lim I a (-1) c → 0 ≤ a → a ≤ lim → (c.length : Int) ≤ a → v2.toInt = (k : Int) → k ≤ 4 → 25 ≤ 5 * k + cw + D → (∀ I', LSw Z I0 v0 uD lim I' r.1 r.2.1 (c ++ r.2.2) → Q I' L) → fR3 D cw v0 v1 v2 Z I L Q
def LC3 (Z : jZ) (I0 : jI) (v0 v1 uB uD : Nat) (lim : Int) (d w : Nat) (y : Int32) : Prop := ∀ (D k m : Nat) (a : Int) (r : Int × Int × List Int) (c : List Int) (v2 v4 : Int32) (I : jI) (L : jL) (Q : jI → jL → Prop), PL (GS (I0 uB) lim) d w k a = some r → LSw Z I0 v0 uD lim I a (-1) c → 0 ≤ a → a ≤ lim → (c.length : Int) + pl7 w ≤ a → v2.toInt = (k : Int) → k ≤ 4 → 21 ≤ 5 * k + D → 0 ≤ v4.toInt → v4.toInt ≤ a → lim - a < (m : Int) → (∀ I', LSw Z I0 v0 uD lim I' r.1 r.2.1 (c ++ r.2.2) → Q I' L) → fs_X3_readSigned_L5 (fR3 D) Z Q m v0 v1 v2 y v4 I L
def LC4 (Z : jZ) (I0 : jI) (v0 v1 uB uD : Nat) (lim : Int) (d : Nat) : Prop := ∀ (D k m : Nat) (a : Int) (r : Int × Int × List Int) (c : List Int) (v2 v3 : Int32) (I : jI) (L : jL) (Q : jI → jL → Prop), PL (GS (I0 uB) lim) d 4 k a = some r → LSw Z I0 v0 uD lim I a (-1) c → 0 ≤ a → a ≤ lim → (c.length : Int) ≤ a → v2.toInt = (k : Int) → k ≤ 4 → 23 ≤ 5 * k + D → 0 ≤ v3.toInt → v3.toInt ≤ a → lim - a < (m : Int) → (∀ I', LSw Z I0 v0 uD lim I' r.1 r.2.1 (c ++ r.2.2) → Q I' L) → fs_X3_readSum_L8 (fR3 D) Z Q m v0 v1 v2 v3 I L
def LC5 (Z : jZ) (I0 : jI) (v0 v1 uB uD : Nat) (lim : Int) (d : Nat) : Prop := ∀ (D k m : Nat) (a : Int) (r : Int × Int × List Int) (c : List Int) (v2 v3 : Int32) (I : jI) (L : jL) (Q : jI → jL → Prop), PL (GS (I0 uB) lim) d 5 k a = some r → LSw Z I0 v0 uD lim I a (-1) c → 0 ≤ a → a ≤ lim → (c.length : Int) ≤ a → v2.toInt = (k : Int) → k ≤ 4 → 22 ≤ 5 * k + D → 0 ≤ v3.toInt → v3.toInt ≤ a → lim - a < (m : Int) → (∀ I', LSw Z I0 v0 uD lim I' r.1 r.2.1 (c ++ r.2.2) → Q I' L) → fs_X3_readProduct_L8 (fR3 D) Z Q m v0 v1 v2 v3 I L
def LCa (Z : jZ) (I0 : jI) (v0 v1 uB uD : Nat) (lim : Int) (d : Nat) : Prop := LC1 Z I0 v0 v1 uB uD lim d 0 0 ∧ LC1 Z I0 v0 v1 uB uD lim d 1 1 ∧ LC1 Z I0 v0 v1 uB uD lim d 2 2 ∧ LC1 Z I0 v0 v1 uB uD lim d 3 3 ∧ LC1 Z I0 v0 v1 uB uD lim d 6 4 ∧ LC3 Z I0 v0 v1 uB uD lim d 3 0 ∧ LC3 Z I0 v0 v1 uB uD lim d 7 1 ∧ LC4 Z I0 v0 v1 uB uD lim d ∧ LC5 Z I0 v0 v1 uB uD lim d
theorem ap0 {c e : List Int} {x : Int} {l : List Int} : c ++ e ++ [x] ++ l = c ++ (e ++ [x] ++ l) := by rw [List.append_assoc, List.append_assoc, List.append_assoc]
set_option maxHeartbeats 4000000 in
theorem LC_ex {Z : jZ} {I0 : jI} {v0 v1 uB uD : Nat} {lim : Int} {d : Nat} (t : TLw Z I0 v0 v1 uB uD lim) (ih : LCa Z I0 v0 v1 uB uD lim d) : LC1 Z I0 v0 v1 uB uD lim (d + 1) 0 0 := by
  intro D k a r c v2 I L Q hp s h0 h1 hc ek hk hD hQ
  have hl := t.2.2.2.2.2.1
  obtain ⟨p, e, hp⟩ := PL_i0 hp
  obtain ⟨p1, p2, p3, p4⟩ := PL_ok GSx d 1 k a p (by omega) h0 h1 e
  cases D with
  | zero => omega
  | succ D =>
    show fs_X3_readExpression (fR3 D) v0 v1 v2 Z I L Q
    unfold fs_X3_readExpression
    refine ih.2.1 D k a p c v2 I L _ e s h0 h1 hc ek hk (by omega) (fun I1 s1 => ?_)
    have go : p.2.1 = -1 → ∀ t', PL (GS (I0 uB) lim) d 1 k (p.1 + 1) = some t' → r = (t'.1, t'.2.1, p.2.2 ++ t'.2.2 ++ [2000 + GS (I0 uB) lim p.1]) → (GS (I0 uB) lim p.1 = 60 ∨ GS (I0 uB) lim p.1 = 62 ∨ GS (I0 uB) lim p.1 = 61) → fs_X3_readExpression_b30 (fR3 D) Z Q v0 v1 v2 I1 L := by
      intro g t' e' hr hg
      have z4 : (p.2.2.length : Int) + a ≤ p.1 + 0 := (p4 g).2
      have l1 := GSlt (f := I0 uB) (lim := lim) (x := p.1) (by omega)
      obtain ⟨t1, t2, t3, t4⟩ := PL_ok GSx d 1 k (p.1 + 1) t' (by omega) (by omega) l1 e'
      unfold fs_X3_readExpression_b30
      refine l_look t s1 (by omega) (fun x hx x0 x1 => ?_)
      unfold CLk at hx
      intro I8 e8
      rw [e8]
      rw [g] at s1
      refine ih.2.1 D k (p.1 + 1) t' (c ++ p.2.2) v2 _ L _ e' (LSw_at t s1 (by omega)) (by omega) l1 (by rw [List.length_append]; omega) ek hk (by omega) (fun I11 s11 => ?_)
      by_cases g2 : t'.2.1 = -1
      · rw [g2] at s11
        have z5 : (t'.2.2.length : Int) + (p.1 + 1) ≤ t'.1 + 0 := (t4 g2).2
        refine l_emit t s11 (by rw [List.length_append, List.length_append]; omega) (l_op (y := 0) rfl (by omega)) (fun I' s' => hQ I' ?_)
        rw [show x.toInt = GS (I0 uB) lim p.1 by omega] at s'
        rw [hr]
        show LSw Z I0 v0 uD lim I' t'.1 t'.2.1 (c ++ (p.2.2 ++ t'.2.2 ++ [2000 + GS (I0 uB) lim p.1]))
        rw [g2]
        rw [List.append_assoc c, List.append_assoc c] at s'
        exact s'
      · refine l_emitD s11 g2 (hQ I11 ?_)
        rw [hr]
        exact LSw_any s11 g2
    refine l_ahead (k2 := 60) (k3 := 62) t s1 (by omega) rfl rfl (by omega) (fun g1 g2 => ⟨fun _ => ?_, fun q => absurd q (by decide)⟩) (fun g => ⟨fun q => absurd rfl q, fun _ => ?_⟩)
    · rcases hp with ⟨b1, b2, t', e', hr⟩ | ⟨b, hr⟩
      · exact go b1 t' e' hr b2
      · exact absurd ⟨g1, by omega⟩ b
    · refine l_ahead (k2 := 61) (k3 := 61) t s1 (by omega) rfl rfl (by omega) (fun g1 g2 => ⟨fun q => absurd q (by decide), fun _ => ?_⟩) (fun g' => ⟨fun _ => ?_, fun q => absurd rfl q⟩)
      · rcases hp with ⟨b1, b2, t', e', hr⟩ | ⟨b, hr⟩
        · exact go b1 t' e' hr b2
        · exact absurd ⟨g1, by omega⟩ b
      · rcases hp with ⟨b1, b2, t', e', hr⟩ | ⟨b, hr⟩
        · omega
        · rw [hr] at hQ
          exact hQ I1 s1
set_option maxHeartbeats 4000000 in
theorem LC_sum {Z : jZ} {I0 : jI} {v0 v1 uB uD : Nat} {lim : Int} {d : Nat} (t : TLw Z I0 v0 v1 uB uD lim) (ih : LCa Z I0 v0 v1 uB uD lim d) : LC1 Z I0 v0 v1 uB uD lim (d + 1) 1 1 := by
  intro D k a r c v2 I L Q hp s h0 h1 hc ek hk hD hQ
  have hl := t.2.2.2.2.2.1
  obtain ⟨p, e, hp⟩ := PL_i1 hp
  obtain ⟨p1, p2, p3, p4⟩ := PL_ok GSx d 2 k a p (by omega) h0 h1 e
  cases D with
  | zero => omega
  | succ D =>
    show fs_X3_readSum (fR3 D) v0 v1 v2 Z I L Q
    unfold fs_X3_readSum
    refine ih.2.2.1 D k a p c v2 I L _ e s h0 h1 hc ek hk (by omega) (fun I1 s1 => ?_)
    refine ⟨41 + 1, ?_⟩
    rcases hp with ⟨b1, t', e', hr⟩ | ⟨b, hr⟩
    · have z4 : (p.2.2.length : Int) + a ≤ p.1 + 0 := (p4 b1).2
      rw [b1] at s1
      refine ih.2.2.2.2.2.2.2.1 D k (41 + 1) p.1 t' (c ++ p.2.2) v2 0 I1 L Q e' s1 (by omega) p2 (by rw [List.length_append]; omega) ek hk (by omega) (by decide) (by show (0 : Int) ≤ p.1; omega) (by omega) (fun I' s' => hQ I' ?_)
      rw [hr]
      rw [List.append_assoc] at s'
      exact s'
    · refine l_sumF t s1 (by omega) b (hQ I1 ?_)
      rw [hr]
      exact s1
set_option maxHeartbeats 4000000 in
theorem LC_prod {Z : jZ} {I0 : jI} {v0 v1 uB uD : Nat} {lim : Int} {d : Nat} (t : TLw Z I0 v0 v1 uB uD lim) (ih : LCa Z I0 v0 v1 uB uD lim d) : LC1 Z I0 v0 v1 uB uD lim (d + 1) 2 2 := by
  intro D k a r c v2 I L Q hp s h0 h1 hc ek hk hD hQ
  have hl := t.2.2.2.2.2.1
  obtain ⟨p, e, hp⟩ := PL_i2 hp
  obtain ⟨p1, p2, p3, p4⟩ := PL_ok GSx d 3 k a p (by omega) h0 h1 e
  cases D with
  | zero => omega
  | succ D =>
    show fs_X3_readProduct (fR3 D) v0 v1 v2 Z I L Q
    unfold fs_X3_readProduct
    refine ih.2.2.2.1 D k a p c v2 I L _ e s h0 h1 hc ek hk (by omega) (fun I1 s1 => ?_)
    refine ⟨41 + 1, ?_⟩
    rcases hp with ⟨b1, t', e', hr⟩ | ⟨b, hr⟩
    · have z4 : (p.2.2.length : Int) + a ≤ p.1 + 0 := (p4 b1).2
      rw [b1] at s1
      refine ih.2.2.2.2.2.2.2.2 D k (41 + 1) p.1 t' (c ++ p.2.2) v2 0 I1 L Q e' s1 (by omega) p2 (by rw [List.length_append]; omega) ek hk (by omega) (by decide) (by show (0 : Int) ≤ p.1; omega) (by omega) (fun I' s' => hQ I' ?_)
      rw [hr]
      rw [List.append_assoc] at s'
      exact s'
    · refine l_prodF t s1 (by omega) b (hQ I1 ?_)
      rw [hr]
      exact s1
theorem LC_sig {Z : jZ} {I0 : jI} {v0 v1 uB uD : Nat} {lim : Int} {d : Nat} (t : TLw Z I0 v0 v1 uB uD lim) (ih : LC3 Z I0 v0 v1 uB uD lim d 3 0) : LC1 Z I0 v0 v1 uB uD lim d 3 3 := by
  intro D k a r c v2 I L Q hp s h0 h1 hc ek hk hD hQ
  have hl := t.2.2.2.2.2.1
  cases D with
  | zero => omega
  | succ D =>
    show fs_X3_readSigned (fR3 D) v0 v1 v2 Z I L Q
    unfold fs_X3_readSigned
    exact ⟨42, ih D k 42 a r c v2 0 I L Q hp s h0 h1 (by show (c.length : Int) + 0 ≤ a; omega) ek hk (by omega) (by decide) (by show (0 : Int) ≤ a; omega) (by omega) hQ⟩
set_option maxHeartbeats 4000000 in
theorem LC_l3 {Z : jZ} {I0 : jI} {v0 v1 uB uD : Nat} {lim : Int} {d : Nat} (t : TLw Z I0 v0 v1 uB uD lim) (ih : LCa Z I0 v0 v1 uB uD lim d) : LC3 Z I0 v0 v1 uB uD lim (d + 1) 3 0 := by
  intro D k m a r c v2 v4 I L Q hp s h0 h1 hc ek hk hD g0 g1 hm hQ
  have hl := t.2.2.2.2.2.1
  have hc : (c.length : Int) + 0 ≤ a := hc
  cases m with
  | zero => omega
  | succ m =>
    have stop : ¬ GS (I0 uB) lim a = 45 → fs_X3_readSigned_b50 (fR3 D) Z Q v0 v1 v2 0 I L := by
      intro ng
      unfold fs_X3_readSigned_b50
      rcases PL_i3 hp with ⟨b, -⟩ | ⟨-, e⟩
      · exact absurd b ng
      · exact ih.2.2.2.2.1 D k a r c v2 I L _ e s h0 h1 (by omega) ek hk (by omega) (fun I1 s1 => ⟨fun _ => hQ I1 s1, fun q => absurd rfl q⟩)
    unfold fs_X3_readSigned_L5
    refine ⟨fun q => stop (fun q2 => ?_), fun q => ?_⟩
    · have q := (i_le (show (40 : Int32).toInt = 40 from rfl) (y := v4) rfl).mp q
      have := GSlt (f := I0 uB) (lim := lim) (x := a) (by omega)
      omega
    refine l_ahead (k2 := 45) (k3 := 45) t s h0 rfl rfl (by omega) (fun q1 q2 => ⟨fun q => absurd q (by decide), fun _ => ⟨fun q => absurd rfl q, fun _ => ?_⟩⟩) (fun g => ⟨fun _ => stop (by omega), fun q => absurd rfl q⟩)
    have l1 := GSlt (f := I0 uB) (lim := lim) (x := a) (by omega)
    unfold fs_X3_readSigned_b33
    intro I14 e14 x15 e15
    rw [e14]
    have d15 : x15.toInt = v4.toInt + 1 := by rw [e15]; exact i_add rfl (show (1 : Int32).toInt = 1 from rfl) (by omega) (by omega)
    rcases PL_i3 hp with ⟨-, e⟩ | ⟨b, -⟩
    · exact ih.2.2.2.2.2.2.1 D k m (a + 1) r c v2 x15 _ L Q e (LSw_at t s (by omega)) (by omega) l1 (by show (c.length : Int) + 1 ≤ a + 1; omega) ek hk hD (by omega) (by omega) (by omega) hQ
    · omega
set_option maxHeartbeats 4000000 in
theorem LC_l7 {Z : jZ} {I0 : jI} {v0 v1 uB uD : Nat} {lim : Int} {d : Nat} (t : TLw Z I0 v0 v1 uB uD lim) (ih : LCa Z I0 v0 v1 uB uD lim d) : LC3 Z I0 v0 v1 uB uD lim (d + 1) 7 1 := by
  intro D k m a r c v2 v4 I L Q hp s h0 h1 hc ek hk hD g0 g1 hm hQ
  have hl := t.2.2.2.2.2.1
  have hc : (c.length : Int) + 1 ≤ a := hc
  cases m with
  | zero => omega
  | succ m =>
    have stop : ¬ GS (I0 uB) lim a = 45 → fs_X3_readSigned_b50 (fR3 D) Z Q v0 v1 v2 1 I L := by
      intro ng
      unfold fs_X3_readSigned_b50
      rcases PL_i7 hp with ⟨b, -⟩ | ⟨-, p, e, hr⟩
      · exact absurd b ng
      obtain ⟨p1, p2, p3, p4⟩ := PL_ok GSx d 6 k a p (by omega) h0 h1 e
      refine ih.2.2.2.2.1 D k a p c v2 I L _ e s h0 h1 (by omega) ek hk (by omega) (fun I1 s1 => ⟨fun q => absurd q (by decide), fun _ => ?_⟩)
      by_cases b : p.2.1 = -1
      · rw [b] at s1
        have z4 : (p.2.2.length : Int) + a ≤ p.1 + 0 := (p4 b).2
        refine l_emit (v := 2000) t s1 (by rw [List.length_append]; omega) rfl (fun I' s' => hQ I' ?_)
        rw [hr]
        show LSw Z I0 v0 uD lim I' p.1 p.2.1 (c ++ (p.2.2 ++ [2000]))
        rw [b]
        rw [List.append_assoc] at s'
        exact s'
      · refine l_emitD s1 b (hQ I1 ?_)
        rw [hr]
        exact LSw_any s1 b
    unfold fs_X3_readSigned_L5
    refine ⟨fun q => stop (fun q2 => ?_), fun q => ?_⟩
    · have q := (i_le (show (40 : Int32).toInt = 40 from rfl) (y := v4) rfl).mp q
      have := GSlt (f := I0 uB) (lim := lim) (x := a) (by omega)
      omega
    refine l_ahead (k2 := 45) (k3 := 45) t s h0 rfl rfl (by omega) (fun q1 q2 => ⟨fun q => absurd q (by decide), fun _ => ⟨fun _ => ?_, fun q => absurd q (by decide)⟩⟩) (fun g => ⟨fun _ => stop (by omega), fun q => absurd rfl q⟩)
    have l1 := GSlt (f := I0 uB) (lim := lim) (x := a) (by omega)
    unfold fs_X3_readSigned_b33
    intro I14 e14 x15 e15
    rw [e14]
    have d15 : x15.toInt = v4.toInt + 1 := by rw [e15]; exact i_add rfl (show (1 : Int32).toInt = 1 from rfl) (by omega) (by omega)
    rcases PL_i7 hp with ⟨-, e⟩ | ⟨b, -⟩
    · exact ih.2.2.2.2.2.1 D k m (a + 1) r c v2 x15 _ L Q e (LSw_at t s (by omega)) (by omega) l1 (by show (c.length : Int) + 0 ≤ a + 1; omega) ek hk hD (by omega) (by omega) (by omega) hQ
    · omega
set_option maxHeartbeats 4000000 in
theorem LC_l4 {Z : jZ} {I0 : jI} {v0 v1 uB uD : Nat} {lim : Int} {d : Nat} (t : TLw Z I0 v0 v1 uB uD lim) (ih : LCa Z I0 v0 v1 uB uD lim d) : LC4 Z I0 v0 v1 uB uD lim (d + 1) := by
  intro D k m a r c v2 v3 I L Q hp s h0 h1 hc ek hk hD g0 g1 hm hQ
  have hl := t.2.2.2.2.2.1
  cases m with
  | zero => omega
  | succ m =>
    have stop : ¬ (GS (I0 uB) lim a = 43 ∨ GS (I0 uB) lim a = 45) → Q I L := by
      intro ng
      rcases PL_i4 hp with ⟨b, -⟩ | ⟨-, hr⟩
      · exact absurd b ng
      · refine hQ I ?_
        rw [hr]
        show LSw Z I0 v0 uD lim I a (-1) (c ++ [])
        rw [List.append_nil]
        exact s
    unfold fs_X3_readSum_L8
    refine ⟨fun q => stop (fun q2 => ?_), fun q => ?_⟩
    · have q := (i_le (show (40 : Int32).toInt = 40 from rfl) (y := v3) rfl).mp q
      have := GSlt (f := I0 uB) (lim := lim) (x := a) (by omega)
      omega
    refine l_ahead (k2 := 43) (k3 := 45) t s h0 rfl rfl (by omega) (fun q1 q2 => ⟨fun q => absurd q (by decide), fun _ => ?_⟩) (fun g => ⟨fun _ => stop (by omega), fun q => absurd rfl q⟩)
    have l1 := GSlt (f := I0 uB) (lim := lim) (x := a) (by omega)
    refine l_look t s h0 (fun x hx x0 x1 => ?_)
    unfold CLk at hx
    intro I17 e17
    rw [e17]
    rcases PL_i4 hp with ⟨-, p, e, hp⟩ | ⟨b, -⟩
    · obtain ⟨p1, p2, p3, p4⟩ := PL_ok GSx d 2 k (a + 1) p (by omega) (by omega) l1 e
      refine ih.2.2.1 D k (a + 1) p c v2 _ L _ e (LSw_at t s (by omega)) (by omega) l1 (by omega) ek hk (by omega) (fun I1 s1 => ?_)
      rcases hp with ⟨b, t', e', hr⟩ | ⟨b, hr⟩
      · rw [b] at s1
        have z4 : (p.2.2.length : Int) + (a + 1) ≤ p.1 + 0 := (p4 b).2
        refine l_emit t s1 (by rw [List.length_append]; omega) (l_op (y := 0) rfl (by omega)) (fun I' s' => ?_)
        intro x30 e30
        have d30 : x30.toInt = v3.toInt + 1 := by rw [e30]; exact i_add rfl (show (1 : Int32).toInt = 1 from rfl) (by omega) (by omega)
        rw [show x.toInt = GS (I0 uB) lim a by omega] at s'
        refine ih.2.2.2.2.2.2.2.1 D k m p.1 t' _ v2 x30 I' L Q e' s' (by omega) p2 (by rw [List.length_append, List.length_append]; show ((c.length + p.2.2.length + 1 : Nat) : Int) ≤ p.1; omega) ek hk hD (by omega) (by omega) (by omega) (fun I2 s2 => hQ I2 ?_)
        rw [hr]
        rw [ap0] at s2
        exact s2
      · refine l_emitD s1 b ?_
        intro x30 e30
        cases m with
        | zero => omega
        | succ m =>
          refine l_sumF t s1 (by omega) b (hQ I1 ?_)
          rw [hr]
          exact s1
    · omega
set_option maxHeartbeats 4000000 in
theorem LC_l5 {Z : jZ} {I0 : jI} {v0 v1 uB uD : Nat} {lim : Int} {d : Nat} (t : TLw Z I0 v0 v1 uB uD lim) (ih : LCa Z I0 v0 v1 uB uD lim d) : LC5 Z I0 v0 v1 uB uD lim (d + 1) := by
  intro D k m a r c v2 v3 I L Q hp s h0 h1 hc ek hk hD g0 g1 hm hQ
  have hl := t.2.2.2.2.2.1
  cases m with
  | zero => omega
  | succ m =>
    have stop : ¬ (GS (I0 uB) lim a = 42 ∨ GS (I0 uB) lim a = 47) → Q I L := by
      intro ng
      rcases PL_i5 hp with ⟨b, -⟩ | ⟨-, hr⟩
      · exact absurd b ng
      · refine hQ I ?_
        rw [hr]
        show LSw Z I0 v0 uD lim I a (-1) (c ++ [])
        rw [List.append_nil]
        exact s
    unfold fs_X3_readProduct_L8
    refine ⟨fun q => stop (fun q2 => ?_), fun q => ?_⟩
    · have q := (i_le (show (40 : Int32).toInt = 40 from rfl) (y := v3) rfl).mp q
      have := GSlt (f := I0 uB) (lim := lim) (x := a) (by omega)
      omega
    refine l_ahead (k2 := 42) (k3 := 47) t s h0 rfl rfl (by omega) (fun q1 q2 => ⟨fun q => absurd q (by decide), fun _ => ?_⟩) (fun g => ⟨fun _ => stop (by omega), fun q => absurd rfl q⟩)
    have l1 := GSlt (f := I0 uB) (lim := lim) (x := a) (by omega)
    refine l_look t s h0 (fun x hx x0 x1 => ?_)
    unfold CLk at hx
    intro I17 e17
    rw [e17]
    rcases PL_i5 hp with ⟨-, p, e, hp⟩ | ⟨b, -⟩
    · obtain ⟨p1, p2, p3, p4⟩ := PL_ok GSx d 3 k (a + 1) p (by omega) (by omega) l1 e
      refine ih.2.2.2.1 D k (a + 1) p c v2 _ L _ e (LSw_at t s (by omega)) (by omega) l1 (by omega) ek hk (by omega) (fun I1 s1 => ?_)
      rcases hp with ⟨b, t', e', hr⟩ | ⟨b, hr⟩
      · rw [b] at s1
        have z4 : (p.2.2.length : Int) + (a + 1) ≤ p.1 + 0 := (p4 b).2
        refine l_emit t s1 (by rw [List.length_append]; omega) (l_op (y := 0) rfl (by omega)) (fun I' s' => ?_)
        intro x30 e30
        have d30 : x30.toInt = v3.toInt + 1 := by rw [e30]; exact i_add rfl (show (1 : Int32).toInt = 1 from rfl) (by omega) (by omega)
        rw [show x.toInt = GS (I0 uB) lim a by omega] at s'
        refine ih.2.2.2.2.2.2.2.2 D k m p.1 t' _ v2 x30 I' L Q e' s' (by omega) p2 (by rw [List.length_append, List.length_append]; show ((c.length + p.2.2.length + 1 : Nat) : Int) ≤ p.1; omega) ek hk hD (by omega) (by omega) (by omega) (fun I2 s2 => hQ I2 ?_)
        rw [hr]
        rw [ap0] at s2
        exact s2
      · refine l_emitD s1 b ?_
        intro x30 e30
        cases m with
        | zero => omega
        | succ m =>
          refine l_prodF t s1 (by omega) b (hQ I1 ?_)
          rw [hr]
          exact s1
    · omega
set_option maxHeartbeats 4000000 in
theorem LC_th {Z : jZ} {I0 : jI} {v0 v1 uB uD : Nat} {lim : Int} {d : Nat} (t : TLw Z I0 v0 v1 uB uD lim) (ih : LCa Z I0 v0 v1 uB uD lim d) : LC1 Z I0 v0 v1 uB uD lim (d + 1) 6 4 := by
  intro D k a r c v2 I L Q hp s h0 h1 hc ek hk hD hQ
  have hl := t.2.2.2.2.2.1
  have hp := PL_i6 hp
  cases D with
  | zero => omega
  | succ D =>
    show fs_X3_readThing (fR3 D) v0 v1 v2 Z I L Q
    unfold fs_X3_readThing
    refine l_look t s h0 (fun x hx x0 x1 => ?_)
    unfold CLk at hx
    have key : ∀ s0 : Int32, (-1 ≤ s0.toInt ∧ s0.toInt ≤ 6) → (0 ≤ x.toInt → s0.toInt = lix x.toInt) → (x.toInt < 0 → s0.toInt = -1) → fs_X3_readThing_b22 (fR3 D) Z Q v0 v1 v2 x s0 I L := by
      intro s0 r0 r1 r2
      have hsx : (0 ≤ lix (GS (I0 uB) lim a) → s0.toInt = lix (GS (I0 uB) lim a) ∧ x.toInt = GS (I0 uB) lim a) ∧ (¬ 0 ≤ lix (GS (I0 uB) lim a) → s0.toInt < 0) := by
        constructor
        · intro q
          have := lix_0 q
          have ex : x.toInt = GS (I0 uB) lim a := hx.1 (by omega)
          rw [ex] at r1
          exact ⟨r1 (by omega), ex⟩
        · intro q
          by_cases q2 : 0 ≤ GS (I0 uB) lim a
          · have ex : x.toInt = GS (I0 uB) lim a := hx.1 q2
            rw [ex] at r1
            have := r1 q2
            omega
          · rcases hx.2 (by omega) with q3 | q3
            · have := r2 (by omega)
              omega
            · have := r1 (by omega)
              rw [lix_off (a := x.toInt) (by omega)] at this
              omega
      unfold fs_X3_readThing_b22
      refine ⟨fun _ => ?_, fun q => absurd ((i_eq s.2.2.2.1 (show (-1 : Int32).toInt = -1 from rfl)).mpr rfl) q⟩
      unfold f_X10_isDigit
      have nodig : ¬ (48 ≤ GS (I0 uB) lim a ∧ GS (I0 uB) lim a ≤ 57) → (s0 < 0 → ((¬ x = (40 : Int32) → fs_X3_readThing_b113 (fR3 D) Z Q v0 I L) ∧ (x = (40 : Int32) → (((4 : Int32) ≤ v2 → fs_X3_readThing_b113 (fR3 D) Z Q v0 I L) ∧ (¬ ((4 : Int32) ≤ v2) → (∀ I14 : jI, I14 = jpI I v0 6 ((I v0 6) + (1 : Int32)) → (fR3 D 0 v0 v1 (v2 + (1 : Int32)) Z I14 L (fun I17 L18 => (f_X3_readClosing v0 v1 Z I17 L18 (fun I23 L24 => Q I23 L24)))))))))) ∧ (¬ (s0 < 0) → (∀ I27 : jI, I27 = jpI I v0 6 ((I v0 6) + (1 : Int32)) → (f_X3_emit v0 ((1000 : Int32) + s0) Z I27 L (fun I30 L31 => Q I30 L31)))) := by
        intro nd
        have bad : ¬ 0 ≤ lix (GS (I0 uB) lim a) → ¬ (GS (I0 uB) lim a = 40 ∧ k < 4) → fs_X3_readThing_b113 (fR3 D) Z Q v0 I L := by
          intro q q2
          unfold fs_X3_readThing_b113
          intro I1 e1
          rw [e1]
          rcases hp with ⟨b, -⟩ | ⟨-, b, -⟩ | ⟨-, -, b, -⟩ | ⟨-, -, -, hr⟩
          · exact absurd b nd
          · exact absurd b q
          · exact absurd b q2
          · have s2 := LSw_flt (c' := c ++ []) (y := I v0 6) t s (by rw [s.2.2.1]; omega)
            rw [s.2.2.1] at s2
            rw [hr] at hQ
            exact hQ _ s2
        refine ⟨fun q => ⟨fun q2 => ?_, fun q2 => ⟨fun q3 => ?_, fun q3 => ?_⟩⟩, fun q => ?_⟩
        · have q := (i_lt (x := s0) (y := 0) rfl (show (0 : Int32).toInt = 0 from rfl)).mp q
          have q2 := (not_congr (i_eq (x := x) (y := 40) rfl (show (40 : Int32).toInt = 40 from rfl))).mp q2
          exact bad (fun g => by have := (hsx.1 g).1; omega) (fun g => by have := hx.1 (by omega); omega)
        · have q := (i_lt (x := s0) (y := 0) rfl (show (0 : Int32).toInt = 0 from rfl)).mp q
          have q3 := (i_le (show (4 : Int32).toInt = 4 from rfl) ek).mp q3
          exact bad (fun g => by have := (hsx.1 g).1; omega) (fun g => by omega)
        · have q := (i_lt (x := s0) (y := 0) rfl (show (0 : Int32).toInt = 0 from rfl)).mp q
          have q2 := (i_eq (x := x) (y := 40) rfl (show (40 : Int32).toInt = 40 from rfl)).mp q2
          have q3 := (not_congr (i_le (show (4 : Int32).toInt = 4 from rfl) ek)).mp q3
          have g40 : GS (I0 uB) lim a = 40 := by omega
          have l1 := GSlt (f := I0 uB) (lim := lim) (x := a) (by omega)
          intro I14 e14
          rw [e14]
          rcases hp with ⟨b, -⟩ | ⟨-, b, -⟩ | ⟨-, -, -, p, e, hp⟩ | ⟨-, -, b, -⟩
          · exact absurd b nd
          · have := (hsx.1 b).1
            omega
          · obtain ⟨p1, p2, p3, p4⟩ := PL_ok GSx d 0 (k + 1) (a + 1) p (by omega) (by omega) l1 e
            have ek1 : (v2 + (1 : Int32)).toInt = ((k + 1 : Nat) : Int) := (i_add ek (show (1 : Int32).toInt = 1 from rfl) (by omega) (by omega)).trans (by omega)
            refine ih.1 D (k + 1) (a + 1) p c _ _ L _ e (LSw_at t s (by omega)) (by omega) l1 (by omega) ek1 (by omega) (by omega) (fun I1 s1 => ?_)
            refine l_closing (c' := c ++ []) t s1 (by omega) (fun b1 b2 I2 s2 => ?_) (fun b1 b2 I2 s2 => ?_) (fun b1 => ?_)
            · rcases hp with ⟨-, -, hr⟩ | ⟨-, b, -⟩ | ⟨b, -⟩
              · rw [hr] at hQ; exact hQ I2 s2
              · exact absurd b2 b
              · exact absurd b1 b
            · rcases hp with ⟨-, b, -⟩ | ⟨-, -, hr⟩ | ⟨b, -⟩
              · exact absurd b b2
              · rw [hr] at hQ; exact hQ I2 s2
              · exact absurd b1 b
            · rcases hp with ⟨b, -⟩ | ⟨b, -⟩ | ⟨-, hr⟩
              · exact absurd b b1
              · exact absurd b b1
              · rw [hr] at hQ; exact hQ I1 s1
          · exact absurd ⟨g40, by omega⟩ b
        · have q := (not_congr (i_lt (x := s0) (y := 0) rfl (show (0 : Int32).toInt = 0 from rfl))).mp q
          intro I27 e27
          rw [e27]
          have hlx : 0 ≤ lix (GS (I0 uB) lim a) := Classical.byContradiction (fun b => by have := hsx.2 b; omega)
          obtain ⟨y1, y2⟩ := hsx.1 hlx
          have l1 := GSlt (f := I0 uB) (lim := lim) (x := a) (by have := lix_0 hlx; omega)
          have rl := lix_rng (GS (I0 uB) lim a)
          rcases hp with ⟨b, -⟩ | ⟨-, -, hr⟩ | ⟨-, b, -⟩ | ⟨-, b, -⟩
          · exact absurd b nd
          · refine l_emit (v := 1000 + lix (GS (I0 uB) lim a)) t (LSw_at t s (by omega)) (by omega) (i_add (show (1000 : Int32).toInt = 1000 from rfl) y1 (by omega) (by omega)) (fun I' s' => ?_)
            rw [hr] at hQ
            exact hQ I' s'
          · exact absurd hlx b
          · exact absurd hlx b
      refine ⟨fun c1 => ⟨fun _ => nodig ?_, fun e => absurd rfl e⟩, fun c1 => ⟨fun c2 => ⟨fun _ => nodig ?_, fun e => absurd rfl e⟩, fun c2 => ⟨fun e => absurd e (by decide), fun _ => ?_⟩⟩⟩
      · have c1 := (i_lt (x := x) (y := 48) rfl (show (48 : Int32).toInt = 48 from rfl)).mp c1
        omega
      · have c2 := (i_lt (x := 57) (y := x) (show (57 : Int32).toInt = 57 from rfl) rfl).mp c2
        omega
      · have c1 := (not_congr (i_lt (x := x) (y := 48) rfl (show (48 : Int32).toInt = 48 from rfl))).mp c1
        have c2 := (not_congr (i_lt (x := 57) (y := x) (show (57 : Int32).toInt = 57 from rfl) rfl)).mp c2
        have hg : 48 ≤ GS (I0 uB) lim a ∧ GS (I0 uB) lim a ≤ 57 := by omega
        have l1 := GSlt (f := I0 uB) (lim := lim) (x := a) (by omega)
        rcases hp with ⟨-, hr⟩ | ⟨b, -⟩ | ⟨b, -⟩ | ⟨b, -⟩
        · refine l_number t s (by omega) (by omega) (fun I' s' => ?_)
          rw [hr] at hQ
          exact hQ I' s'
        · exact absurd hg b
        · exact absurd hg b
        · exact absurd hg b
    refine ⟨fun q => ?_, fun q => ?_⟩
    · have q := (not_congr (i_eq (x := x) (y := -1) rfl (show (-1 : Int32).toInt = -1 from rfl))).mp q
      intro r48 h48
      have e16 := u16_id (x := x) rfl (by omega) x1
      rw [e16] at h48
      exact key r48 h48.1 (fun _ => h48.2 (by omega) x1) (fun g => by omega)
    · have q := (i_eq (x := x) (y := -1) rfl (show (-1 : Int32).toInt = -1 from rfl)).mp q
      exact key (-1) ⟨by decide, by decide⟩ (fun g => by omega) (fun _ => rfl)
theorem LC_all {Z : jZ} {I0 : jI} {v0 v1 uB uD : Nat} {lim : Int} (t : TLw Z I0 v0 v1 uB uD lim) : ∀ d, LCa Z I0 v0 v1 uB uD lim d := by
  intro d
  induction d with
  | zero => exact ⟨fun _ _ _ _ _ _ _ _ _ h => (by cases h), fun _ _ _ _ _ _ _ _ _ h => (by cases h), fun _ _ _ _ _ _ _ _ _ h => (by cases h), fun _ _ _ _ _ _ _ _ _ h => (by cases h), fun _ _ _ _ _ _ _ _ _ h => (by cases h), fun _ _ _ _ _ _ _ _ _ _ _ h => (by cases h), fun _ _ _ _ _ _ _ _ _ _ _ h => (by cases h), fun _ _ _ _ _ _ _ _ _ _ _ h => (by cases h), fun _ _ _ _ _ _ _ _ _ _ _ h => (by cases h)⟩
  | succ d ih =>
    have l3 := LC_l3 t ih
    exact ⟨LC_ex t ih, LC_sum t ih, LC_prod t ih, LC_sig t l3, LC_th t ih, l3, LC_l7 t ih, LC_l4 t ih, LC_l5 t ih⟩
end
section
/-! ===== rules: the fewest ===== -/
/-- what the FAMILIES of a set have -/
def BS (D : Nat → Int) (b : Int32) : Int := shS (fun k => if hbt b k = true then D k else 0) 8
/-- the class: from all on down -/
def fwC (S : Int32 → Int) (all : Int) : Nat → Int32
  | 0 => 255
  | k + 1 => if all < 2 * S (Int32.ofNat (k + 1)) ∧ (bcV (Int32.ofNat (k + 1))).toInt < (bcV (fwC S all k)).toInt then Int32.ofNat (k + 1) else fwC S all k
/-- the reference: from none on up -/
def fwM (S : Int32 → Int) (all : Int) : Nat → Int32
  | 0 => 0
  | k + 1 => if all < 2 * S (Int32.ofNat (k + 1)) ∧ (fwM S all k = 0 ∨ (bcV (Int32.ofNat (k + 1))).toInt < (bcV (fwM S all k)).toInt) then Int32.ofNat (k + 1) else fwM S all k
theorem bc_le7 : ∀ k : Nat, 1 ≤ k → k ≤ 254 → (bcV (Int32.ofNat k)).toInt ≤ 7 := by
  have key : ∀ k : Fin 255, (bcV (Int32.ofNat k.val)).toInt ≤ 7 := by decide +kernel
  exact fun k _ h2 => key ⟨k, by omega⟩
theorem bc_255 : (bcV (255 : Int32)).toInt = 8 := by decide +kernel
theorem ofn_ne {k : Nat} (h1 : 1 ≤ k) (h2 : k ≤ 255) : ¬ Int32.ofNat k = 0 := fun e => by
  have a := i_nI (n := k) (by omega)
  have b : (Int32.ofNat k).toInt = 0 := yz e
  have a : (Int32.ofNat k).toInt = (k : Int) := a
  omega
theorem fw_inv {S T : Int32 → Int} {all : Int} (h : ∀ k : Nat, 1 ≤ k → k ≤ 255 → S (Int32.ofNat k) = T (Int32.ofNat k)) : ∀ k, k ≤ 254 → (fwC S all k = 255 ∧ fwM T all k = 0) ∨ ∃ j : Nat, 1 ≤ j ∧ j ≤ k ∧ fwC S all k = Int32.ofNat j ∧ fwM T all k = Int32.ofNat j := by
  intro k
  induction k with
  | zero => intro _; exact Or.inl ⟨rfl, rfl⟩
  | succ k ih =>
    intro hk
    have eS := h (k + 1) (by omega) (by omega)
    have b7 := bc_le7 (k + 1) (by omega) hk
    rcases ih (by omega) with ⟨e1, e2⟩ | ⟨j, j1, j2, e1, e2⟩
    · have g1 : fwC S all (k + 1) = if all < 2 * S (Int32.ofNat (k + 1)) ∧ (bcV (Int32.ofNat (k + 1))).toInt < (bcV (fwC S all k)).toInt then Int32.ofNat (k + 1) else fwC S all k := rfl
      have g2 : fwM T all (k + 1) = if all < 2 * T (Int32.ofNat (k + 1)) ∧ (fwM T all k = 0 ∨ (bcV (Int32.ofNat (k + 1))).toInt < (bcV (fwM T all k)).toInt) then Int32.ofNat (k + 1) else fwM T all k := rfl
      rw [e1, bc_255] at g1
      rw [e2] at g2
      by_cases c : all < 2 * S (Int32.ofNat (k + 1))
      · rw [if_pos ⟨c, by omega⟩] at g1
        rw [if_pos ⟨by rw [← eS]; exact c, Or.inl rfl⟩] at g2
        exact Or.inr ⟨k + 1, by omega, Nat.le_refl _, g1, g2⟩
      · rw [if_neg (fun x => c x.1)] at g1
        rw [if_neg (fun x => c (by rw [eS]; exact x.1))] at g2
        exact Or.inl ⟨g1, g2⟩
    · have g1 : fwC S all (k + 1) = if all < 2 * S (Int32.ofNat (k + 1)) ∧ (bcV (Int32.ofNat (k + 1))).toInt < (bcV (fwC S all k)).toInt then Int32.ofNat (k + 1) else fwC S all k := rfl
      have g2 : fwM T all (k + 1) = if all < 2 * T (Int32.ofNat (k + 1)) ∧ (fwM T all k = 0 ∨ (bcV (Int32.ofNat (k + 1))).toInt < (bcV (fwM T all k)).toInt) then Int32.ofNat (k + 1) else fwM T all k := rfl
      rw [e1] at g1
      rw [e2] at g2
      have nj := ofn_ne j1 (by omega)
      by_cases c : all < 2 * S (Int32.ofNat (k + 1)) ∧ (bcV (Int32.ofNat (k + 1))).toInt < (bcV (Int32.ofNat j)).toInt
      · rw [if_pos c] at g1
        rw [if_pos ⟨by rw [← eS]; exact c.1, Or.inr c.2⟩] at g2
        exact Or.inr ⟨k + 1, by omega, Nat.le_refl _, g1, g2⟩
      · rw [if_neg c] at g1
        rw [if_neg (fun x => c ⟨by rw [eS]; exact x.1, x.2.resolve_left nj⟩)] at g2
        exact Or.inr ⟨j, j1, by omega, g1, g2⟩
theorem fw_eq {S T : Int32 → Int} {all : Int} (h : ∀ k : Nat, 1 ≤ k → k ≤ 255 → S (Int32.ofNat k) = T (Int32.ofNat k)) (ha : all < 2 * T (Int32.ofNat 255)) : fwC S all 254 = fwM T all 255 := by
  have g2 : fwM T all 255 = if all < 2 * T (Int32.ofNat (254 + 1)) ∧ (fwM T all 254 = 0 ∨ (bcV (Int32.ofNat (254 + 1))).toInt < (bcV (fwM T all 254)).toInt) then Int32.ofNat (254 + 1) else fwM T all 254 := rfl
  rcases fw_inv (S := S) (T := T) (all := all) h 254 (Nat.le_refl _) with ⟨e1, e2⟩ | ⟨j, j1, j2, e1, e2⟩
  · rw [if_pos ⟨ha, Or.inl e2⟩] at g2
    rw [e1, g2]
    rfl
  · have b7 := bc_le7 j j1 j2
    have b8 : (bcV (Int32.ofNat (254 + 1))).toInt = 8 := bc_255
    rw [e2] at g2
    rw [if_neg (fun x => x.2.elim (ofn_ne j1 (by omega)) (fun y => by omega))] at g2
    rw [e1, g2]
theorem fwC_rg (S : Int32 → Int) (all : Int) : ∀ k, k ≤ 254 → 1 ≤ (fwC S all k).toInt ∧ (fwC S all k).toInt ≤ 255 := by
  intro k
  induction k with
  | zero => intro _; exact ⟨show (1 : Int) ≤ (255 : Int32).toInt by decide, show (255 : Int32).toInt ≤ 255 by decide⟩
  | succ k ih =>
    intro hk
    have a : (Int32.ofNat (k + 1)).toInt = ((k + 1 : Nat) : Int) := i_nI (n := k + 1) (by omega)
    show 1 ≤ (if _ then Int32.ofNat (k + 1) else fwC S all k).toInt ∧ (if _ then Int32.ofNat (k + 1) else fwC S all k).toInt ≤ 255
    split
    · omega
    · exact ih (by omega)
theorem BS_bd {D : Nat → Int} (h : ∀ i, i < 8 → 0 ≤ D i ∧ D i ≤ 720) (b : Int32) : ∀ k, k ≤ 8 → 0 ≤ shS (fun k => if hbt b k = true then D k else 0) k ∧ shS (fun k => if hbt b k = true then D k else 0) k ≤ 720 * (k : Int) :=
  shS_bd (fun i hi => by
    show 0 ≤ (if hbt b i = true then D i else 0) ∧ (if hbt b i = true then D i else 0) ≤ 720
    have := h i hi
    split <;> omega)
/-! the class: fewestOver -/
theorem fo_L19 {Z : jZ} {I : jI} {L : jL} (w : WD Z I) (v0 : Nat) (d6 : Nat) (h6 : jr Z v0 6 = some d6) (D : Nat → Int) (eD : ∀ i, i < 8 → (I d6 i).toInt = D i) (hD : ∀ i, i < 8 → 0 ≤ D i ∧ D i ≤ 720) (v1 v2 v3 : Int32) {K : Nat → Int32 → Int32 → Int32 → jI → jL → Prop} {Q : Int32 → jI → jL → Prop}
    (hK : ∀ x3 : Int32, x3 = v3 + 1 → K v0 v1 (if v1.toInt < 2 * BS D v3 ∧ (bcV v3).toInt < (bcV v2).toInt then v3 else v2) x3 I L) :
    ∀ (n k : Nat) (v4 v5 : Int32), v5.toInt = (k : Int) → k ≤ 8 → v4.toInt = shS (fun k => if hbt v3 k = true then D k else 0) k → 9 ≤ n + k → f_X11_fewestOver_L19 K Z Q n v0 v1 v2 v3 v4 v5 I L := by
  intro n
  induction n with
  | zero => intro k v4 v5 e5 hk e4 hn; exfalso; omega
  | succ n ih =>
    intro k v4 v5 e5 hk e4 hn
    have bd := BS_bd hD v3 k hk
    rw [← e4] at bd
    unfold f_X11_fewestOver_L19
    refine ⟨fun c => ?_, fun c => ?_⟩
    · have c := (i_le (show (8 : Int32).toInt = 8 from rfl) e5).mp c
      have ek : k = 8 := by omega
      subst ek
      have e2 : ((2 : Int32) * v4).toInt = 2 * BS D v3 := by
        rw [i_mul (show (2 : Int32).toInt = 2 from rfl) rfl (by omega) (by omega), e4]
        rfl
      refine ⟨fun c2 => ?_, fun c2 => ?_⟩
      · have c2 := (i_le e2 rfl).mp c2
        unfold f_X11_fewestOver_b72
        intro x1 ex1
        have g := hK x1 ex1
        rw [if_neg (fun x => by omega)] at g
        exact g
      · have c2 := (not_congr (i_le e2 rfl)).mp c2
        refine s_J6_bitCount_0f7a4 w v3 (fun r10 p10 => ?_)
        refine s_J6_bitCount_0f7a4 w v2 (fun r17 p17 => ?_)
        refine ⟨fun c3 => ?_, fun c3 => ?_⟩
        · have c3 := (i_le rfl rfl).mp c3
          rw [p10.1, p17.1] at c3
          unfold f_X11_fewestOver_b72
          intro x1 ex1
          have g := hK x1 ex1
          rw [if_neg (fun x => by omega)] at g
          exact g
        · have c3 := (not_congr (i_le rfl rfl)).mp c3
          rw [p10.1, p17.1] at c3
          unfold f_X11_fewestOver_b72
          intro x1 ex1
          have g := hK x1 ex1
          rw [if_pos ⟨by omega, by omega⟩] at g
          exact g
    · have c := (not_congr (i_le (show (8 : Int32).toInt = 8 from rfl) e5)).mp c
      intro b19 hb19
      cases h6.symm.trans hb19
      refine ⟨vi_of e5 (by omega) (by omega), ?_⟩
      intro x21 e21 x22 e22
      have q5 : v5.toNatClampNeg = k := by have := i_nat e5 (by omega); omega
      have s5 : v5 = Int32.ofNat k := (i_eq e5 (i_nI (n := k) (by omega))).mpr rfl
      have ed := eD k (by omega)
      have hd := hD k (by omega)
      rw [q5] at e21
      refine ih (k + 1) x21 x22 ?_ (by omega) ?_ (by omega)
      · rw [e22]; exact (i_add e5 (show (1 : Int32).toInt = 1 from rfl) (by omega) (by omega)).trans (by omega)
      · show _ = shS (fun k => if hbt v3 k = true then D k else 0) k + (if hbt v3 k = true then D k else 0)
        rw [← e4, e21]
        rcases and1 (v3 >>> (v5 &&& 31)) with hb | hb
        · have hh := hbt_no (v := v3) (k := k) (by rw [← s5]; exact hb)
          rw [hb, hh, if_neg (by decide)]
          exact i_add rfl (i_mul (show (0 : Int32).toInt = 0 from rfl) ed (by omega) (by omega) |>.trans (Int.zero_mul _)) (by omega) (by omega)
        · have hh := hbt_yes (v := v3) (k := k) (by rw [← s5, hb]; decide)
          rw [hb, hh, if_pos rfl]
          exact i_add rfl (i_mul (show (1 : Int32).toInt = 1 from rfl) ed (by omega) (by omega) |>.trans (Int.one_mul _)) (by omega) (by omega)
theorem fo_L6 {Z : jZ} {I : jI} {L : jL} (w : WD Z I) (v0 : Nat) (d6 : Nat) (h6 : jr Z v0 6 = some d6) (D : Nat → Int) (eD : ∀ i, i < 8 → (I d6 i).toInt = D i) (hD : ∀ i, i < 8 → 0 ≤ D i ∧ D i ≤ 720) (v1 : Int32) {Q : Int32 → jI → jL → Prop} (hQ : Q (fwC (BS D) v1.toInt 254) I L) :
    ∀ (n k : Nat) (v2 v3 : Int32), v3.toInt = ((k + 1 : Nat) : Int) → k ≤ 254 → v2 = fwC (BS D) v1.toInt k → 255 ≤ n + k → f_X11_fewestOver_L6 Z Q n v0 v1 v2 v3 I L := by
  intro n
  induction n with
  | zero => intro k v2 v3 e3 hk e2 hn; exfalso; omega
  | succ n ih =>
    intro k v2 v3 e3 hk e2 hn
    unfold f_X11_fewestOver_L6
    refine ⟨fun c => ?_, fun c => ?_⟩
    · have c := (i_le (show (255 : Int32).toInt = 255 from rfl) e3).mp c
      have ek : k = 254 := by omega
      subst ek
      rw [e2]
      exact hQ
    · have c := (not_congr (i_le (show (255 : Int32).toInt = 255 from rfl) e3)).mp c
      have s3 : v3 = Int32.ofNat (k + 1) := (i_eq e3 (i_nI (n := k + 1) (by omega))).mpr rfl
      refine ⟨9, fo_L19 w v0 d6 h6 D eD hD v1 v2 v3 (fun x3 ex3 => ?_) 9 0 0 0 rfl (by omega) rfl (by omega)⟩
      refine ih (k + 1) _ x3 ?_ (by omega) ?_ (by omega)
      · rw [ex3]; exact (i_add e3 (show (1 : Int32).toInt = 1 from rfl) (by omega) (by omega)).trans (by omega)
      · rw [e2, s3]
        rfl
theorem s17_X11_fewestOver {Z : jZ} {I : jI} {L : jL} (w : WD Z I) (v0 : Nat) (v1 : Int32) (d6 : Nat) (h6 : jr Z v0 6 = some d6) (D : Nat → Int) (eD : ∀ i, i < 8 → (I d6 i).toInt = D i) (hD : ∀ i, i < 8 → 0 ≤ D i ∧ D i ≤ 720) {Q : Int32 → jI → jL → Prop} (hQ : Q (fwC (BS D) v1.toInt 254) I L) : f_X11_fewestOver v0 v1 Z I L Q := by
  unfold f_X11_fewestOver
  exact ⟨255, fo_L6 w v0 d6 h6 D eD hD v1 hQ 255 0 255 1 rfl (by omega) rfl (by omega)⟩
/-! ===== rules: the reference ===== -/
/-- who is MAIN -/
def mnR (T : Nat → Int32) (s : Nat) : Nat := amx (fun i => (T (8 * s + i)).toInt) 7
theorem mo_L4 {Z : jZ} {I : jI} {L : jL} (v0 : Nat) (u5 : Nat) (h5 : jr Z v0 5 = some u5) (v1 : Int32) (s : Nat) (e1 : v1.toInt = (s : Int)) (hs : s < 24) {Q : Int32 → jI → jL → Prop} (hQ : ∀ r : Int32, r.toInt = (mnR (I u5) s : Int) → Q r I L) :
    ∀ (n k : Nat) (v2 v3 : Int32), v3.toInt = ((k + 1 : Nat) : Int) → k ≤ 7 → v2.toInt = (amx (fun i => (I u5 (8 * s + i)).toInt) k : Int) → 8 ≤ n + k → f_X12_mainOf_L4 Z Q n v0 v1 v2 v3 I L := by
  have e8 : ((8 : Int32) * v1).toInt = 8 * (s : Int) := i_mul (show (8 : Int32).toInt = 8 from rfl) e1 (by omega) (by omega)
  intro n
  induction n with
  | zero => intro k v2 v3 e3 hk e2 hn; exfalso; omega
  | succ n ih =>
    intro k v2 v3 e3 hk e2 hn
    have la := amx_le (fun i => (I u5 (8 * s + i)).toInt) k
    unfold f_X12_mainOf_L4
    refine ⟨fun c => ?_, fun c => ?_⟩
    · have c := (i_le (show (8 : Int32).toInt = 8 from rfl) e3).mp c
      have ek : k = 7 := by omega
      subst ek
      exact hQ v2 e2
    · have c := (not_congr (i_le (show (8 : Int32).toInt = 8 from rfl) e3)).mp c
      intro b3 hb3
      cases h5.symm.trans hb3
      have a3 : (((8 : Int32) * v1) + v3).toInt = 8 * (s : Int) + ((k + 1 : Nat) : Int) := i_add e8 e3 (by omega) (by omega)
      have a2 : (((8 : Int32) * v1) + v2).toInt = 8 * (s : Int) + (amx (fun i => (I u5 (8 * s + i)).toInt) k : Int) := i_add e8 e2 (by omega) (by omega)
      refine ⟨vi_of a3 (by omega) (by omega), ?_⟩
      intro b5 hb5
      cases h5.symm.trans hb5
      refine ⟨vi_of a2 (by omega) (by omega), ?_⟩
      have q3 : (((8 : Int32) * v1) + v3).toNatClampNeg = 8 * s + (k + 1) := by have := i_nat a3 (by omega); omega
      have q2 : (((8 : Int32) * v1) + v2).toNatClampNeg = 8 * s + amx (fun i => (I u5 (8 * s + i)).toInt) k := by have := i_nat a2 (by omega); omega
      rw [q3, q2]
      have st : ∀ x1 : Int32, x1 = v3 + 1 → x1.toInt = ((k + 1 + 1 : Nat) : Int) := fun x1 e => by rw [e]; exact (i_add e3 (show (1 : Int32).toInt = 1 from rfl) (by omega) (by omega)).trans (by omega)
      refine ⟨fun c2 => ?_, fun c2 => ?_⟩
      · have c2 := (i_le rfl rfl).mp c2
        unfold f_X12_mainOf_b37
        intro x1 ex1
        refine ih (k + 1) v2 x1 (st x1 ex1) (by omega) ?_ (by omega)
        show v2.toInt = ((if (I u5 (8 * s + amx (fun i => (I u5 (8 * s + i)).toInt) k)).toInt < (I u5 (8 * s + (k + 1))).toInt then k + 1 else amx (fun i => (I u5 (8 * s + i)).toInt) k : Nat) : Int)
        rw [if_neg (by omega)]
        exact e2
      · have c2 := (not_congr (i_le rfl rfl)).mp c2
        unfold f_X12_mainOf_b37
        intro x1 ex1
        refine ih (k + 1) v3 x1 (st x1 ex1) (by omega) ?_ (by omega)
        show v3.toInt = ((if (I u5 (8 * s + amx (fun i => (I u5 (8 * s + i)).toInt) k)).toInt < (I u5 (8 * s + (k + 1))).toInt then k + 1 else amx (fun i => (I u5 (8 * s + i)).toInt) k : Nat) : Int)
        rw [if_pos (by omega)]
        exact e3
theorem s17_X12_mainOf {Z : jZ} {I : jI} {L : jL} (v0 : Nat) (v1 : Int32) (u5 : Nat) (h5 : jr Z v0 5 = some u5) (s : Nat) (e1 : v1.toInt = (s : Int)) (hs : s < 24) {Q : Int32 → jI → jL → Prop} (hQ : ∀ r : Int32, r.toInt = (mnR (I u5) s : Int) → Q r I L) : f_X12_mainOf v0 v1 Z I L Q := by
  unfold f_X12_mainOf
  exact ⟨8, mo_L4 v0 u5 h5 v1 s e1 hs hQ 8 0 0 1 rfl (by omega) rfl (by omega)⟩
/-- what a set has: PARTS of a STEP (0), STEPS whose MAIN is in it (1) -/
def SM (T : Nat → Int32) (n : Nat) (v1 v2 : Int32) (b : Int32) : Int := if v1 = 0 then BS (fun k => (T (8 * v2.toNatClampNeg + k)).toInt) b else shS (fun s => if hbt b (mnR T s) = true then 1 else 0) n
theorem ru_b167 {Z : jZ} {I : jI} {L : jL} (w : WD Z I) (v0 : Nat) (v1 v2 v3 v4 s0 s1 : Int32) (S all : Int) (e0 : s0.toInt = 2 * S) (e1 : s1.toInt = all) {K : Nat → Int32 → Int32 → Int32 → Int32 → jI → jL → Prop} {Q : Int32 → jI → jL → Prop}
    (hK : ∀ x4 : Int32, x4 = v4 + 1 → K v0 v1 v2 (if all < 2 * S ∧ (v3 = 0 ∨ (bcV v4).toInt < (bcV v3).toInt) then v4 else v3) x4 I L) : f_X12_rules_b167 K Z Q v0 v1 v2 v3 v4 s0 s1 I L := by
  unfold f_X12_rules_b167 f_X12_rules_b189 f_X12_rules_b192
  refine ⟨fun c => ⟨fun c2 x1 ex1 => ?_, fun c2 => ?_⟩, fun c x1 ex1 => ?_⟩
  · have c := (i_lt e1 e0).mp c
    have g := hK x1 ex1
    rw [if_pos ⟨c, Or.inl c2⟩] at g
    exact g
  · have c := (i_lt e1 e0).mp c
    refine s_J6_bitCount_0f7a4 w v4 (fun r10 p10 => ?_)
    refine s_J6_bitCount_0f7a4 w v3 (fun r17 p17 => ?_)
    refine ⟨fun c3 x1 ex1 => ?_, fun c3 x1 ex1 => ?_⟩
    · have c3 := (i_le rfl rfl).mp c3
      rw [p10.1, p17.1] at c3
      have g := hK x1 ex1
      rw [if_neg (fun x => x.2.elim c2 (fun y => by omega))] at g
      exact g
    · have c3 := (not_congr (i_le rfl rfl)).mp c3
      rw [p10.1, p17.1] at c3
      have g := hK x1 ex1
      rw [if_pos ⟨c, Or.inr (by omega)⟩] at g
      exact g
  · have c := (not_congr (i_lt e1 e0)).mp c
    have g := hK x1 ex1
    rw [if_neg (fun x => c x.1)] at g
    exact g
/-- the STEPS -/
theorem ru_L105 {Z : jZ} {I : jI} {L : jL} (w : WD Z I) (v0 : Nat) (u5 : Nat) (h5 : jr Z v0 5 = some u5) (m : Nat) (em : (I v0 0).toInt = (m : Int)) (hm : m ≤ 24) (v1 v2 v3 v4 : Int32) (hv1 : v1 = 0 ∨ v1 = 1) (S0 : Int) (hS0 : 0 ≤ S0 ∧ S0 ≤ 5760) (S : Int) (eS : S = S0 + (if v1 = 0 then 0 else shS (fun s => if hbt v4 (mnR (I u5) s) = true then 1 else 0) m)) {K : Nat → Int32 → Int32 → Int32 → Int32 → jI → jL → Prop} {Q : Int32 → jI → jL → Prop}
    (hK : ∀ x4 : Int32, x4 = v4 + 1 → K v0 v1 v2 (if (if v1 = 0 then 720 else (m : Int)) < 2 * S ∧ (v3 = 0 ∨ (bcV v4).toInt < (bcV v3).toInt) then v4 else v3) x4 I L) :
    ∀ (n j : Nat) (v5 v6 : Int32), v6.toInt = (j : Int) → j ≤ m → v5.toInt = S0 + (if v1 = 0 then 0 else shS (fun s => if hbt v4 (mnR (I u5) s) = true then 1 else 0) j) → 25 ≤ n + j → f_X12_rules_L105 K Z Q n v0 v1 v2 v3 v4 v5 v6 I L := by
  have bd : ∀ j : Nat, 0 ≤ shS (fun s => if hbt v4 (mnR (I u5) s) = true then (1 : Int) else 0) j ∧ shS (fun s => if hbt v4 (mnR (I u5) s) = true then (1 : Int) else 0) j ≤ (j : Int) := by
    intro j
    induction j with
    | zero => exact ⟨Int.le_refl 0, Int.le_refl 0⟩
    | succ j ih =>
      show 0 ≤ shS (fun s => if hbt v4 (mnR (I u5) s) = true then (1 : Int) else 0) j + (if hbt v4 (mnR (I u5) j) = true then (1 : Int) else 0) ∧ shS (fun s => if hbt v4 (mnR (I u5) s) = true then (1 : Int) else 0) j + (if hbt v4 (mnR (I u5) j) = true then (1 : Int) else 0) ≤ ((j + 1 : Nat) : Int)
      split <;> omega
  have n01 : ¬ (0 : Int32) = 1 := by decide
  have n10 : ¬ (1 : Int32) = 0 := by decide
  intro n
  induction n with
  | zero => intro j v5 v6 e6 hj e5 hn; exfalso; omega
  | succ n ih =>
    intro j v5 v6 e6 hj e5 hn
    have bj := bd j
    have b5 : 0 ≤ v5.toInt ∧ v5.toInt ≤ 5784 := by
      rw [e5]
      split <;> omega
    have nx : ∀ x : Int32, x = v6 + 1 → x.toInt = ((j + 1 : Nat) : Int) := fun x e => by
      rw [e]
      exact (i_add e6 (show (1 : Int32).toInt = 1 from rfl) (by have := hm; omega) (by omega)).trans (by omega)
    unfold f_X12_rules_L105
    refine ⟨fun c => ?_, fun c => ?_⟩
    · have c := (i_le em e6).mp c
      have ej : j = m := by omega
      subst ej
      have e2 : ((2 : Int32) * v5).toInt = 2 * S := by rw [i_mul (show (2 : Int32).toInt = 2 from rfl) rfl (by omega) (by omega), e5, eS]
      refine ⟨fun c1 => ?_, fun c1 => ?_⟩
      · refine ru_b167 w v0 v1 v2 v3 v4 _ _ S (j : Int) e2 em (fun x4 ex4 => ?_)
        have g := hK x4 ex4
        rw [if_neg c1] at g
        exact g
      · refine ru_b167 w v0 v1 v2 v3 v4 _ _ S 720 e2 rfl (fun x4 ex4 => ?_)
        have g := hK x4 ex4
        rw [if_pos c1] at g
        exact g
    · have c := (not_congr (i_le em e6)).mp c
      refine ⟨fun c1 => ?_, fun c1 => ?_⟩
      · have z : v1 = 0 := hv1.resolve_right c1
        unfold f_X12_rules_b139 f_X12_rules_b140
        intro x19 e19 x20 e20
        refine ih (j + 1) x19 x20 (nx x20 e20) (by omega) ?_ (by omega)
        rw [e19, if_pos z, i_add rfl (show (0 : Int32).toInt = 0 from rfl) (by omega) (by omega), e5, if_pos z]
        omega
      · have z : ¬ v1 = 0 := by rw [c1]; exact n10
        refine s17_X12_mainOf v0 v6 u5 h5 j e6 (by omega) (fun r30 p30 => ?_)
        have s30 : r30 = Int32.ofNat (mnR (I u5) j) := (i_eq p30 (i_nI (n := mnR (I u5) j) (by have := amx_le (fun i => (I u5 (8 * j + i)).toInt) 7; unfold mnR; omega))).mpr rfl
        refine x12_has s30 (fun hb => ?_) (fun hb => ?_)
        · refine ⟨fun c2 => absurd c2 n10, fun c2 => ?_⟩
          unfold f_X12_rules_b140
          intro x19 e19 x20 e20
          refine ih (j + 1) x19 x20 (nx x20 e20) (by omega) ?_ (by omega)
          rw [e19, if_neg z, i_add rfl (show (1 : Int32).toInt = 1 from rfl) (by omega) (by omega), e5, if_neg z]
          show _ = S0 + (shS (fun s => if hbt v4 (mnR (I u5) s) = true then (1 : Int) else 0) j + (if hbt v4 (mnR (I u5) j) = true then (1 : Int) else 0))
          rw [if_pos hb]
          omega
        · refine ⟨fun c2 => ?_, fun c2 => absurd rfl c2⟩
          unfold f_X12_rules_b139 f_X12_rules_b140
          intro x19 e19 x20 e20
          refine ih (j + 1) x19 x20 (nx x20 e20) (by omega) ?_ (by omega)
          rw [e19, if_neg z, i_add rfl (show (0 : Int32).toInt = 0 from rfl) (by omega) (by omega), e5, if_neg z]
          show _ = S0 + (shS (fun s => if hbt v4 (mnR (I u5) s) = true then (1 : Int) else 0) j + (if hbt v4 (mnR (I u5) j) = true then (1 : Int) else 0))
          rw [hb, if_neg (by decide)]
          omega
/-- the FAMILIES -/
theorem ru_L54 {Z : jZ} {I : jI} {L : jL} (w : WD Z I) (v0 : Nat) (u5 : Nat) (h5 : jr Z v0 5 = some u5) (m : Nat) (em : (I v0 0).toInt = (m : Int)) (hm : m ≤ 24) (ok : ∀ z, z < 8 * m → 0 ≤ (I u5 z).toInt ∧ (I u5 z).toInt ≤ 720) (v1 v2 v3 v4 : Int32) (hv1 : v1 = 0 ∨ v1 = 1) (hv2 : v1 = 0 → 0 ≤ v2.toInt ∧ v2.toInt < (m : Int)) {K : Nat → Int32 → Int32 → Int32 → Int32 → jI → jL → Prop} {Q : Int32 → jI → jL → Prop}
    (hK : ∀ x4 : Int32, x4 = v4 + 1 → K v0 v1 v2 (if (if v1 = 0 then 720 else (m : Int)) < 2 * SM (I u5) m v1 v2 v4 ∧ (v3 = 0 ∨ (bcV v4).toInt < (bcV v3).toInt) then v4 else v3) x4 I L) :
    ∀ (n k : Nat) (v5 v6 : Int32), v6.toInt = (k : Int) → k ≤ 8 → v5.toInt = (if v1 = 0 then shS (fun k => if hbt v4 k = true then (I u5 (8 * v2.toNatClampNeg + k)).toInt else 0) k else 0) → 9 ≤ n + k → f_X12_rules_L54 K Z Q n v0 v1 v2 v3 v4 v5 v6 I L := by
  have n10 : ¬ (1 : Int32) = 0 := by decide
  intro n
  induction n with
  | zero => intro k v5 v6 e6 hk e5 hn; exfalso; omega
  | succ n ih =>
    intro k v5 v6 e6 hk e5 hn
    have b5 : 0 ≤ v5.toInt ∧ v5.toInt ≤ 5760 := by
      rw [e5]
      by_cases z : v1 = 0
      · rw [if_pos z]
        have h2 := hv2 z
        have q2 := i_nat (x := v2) rfl h2.1
        have := BS_bd (D := fun k => (I u5 (8 * v2.toNatClampNeg + k)).toInt) (fun i hi => ok _ (by omega)) v4 k hk
        omega
      · rw [if_neg z]; omega
    have nx : ∀ x : Int32, x = v6 + 1 → k < 8 → x.toInt = ((k + 1 : Nat) : Int) := fun x e h => by
      rw [e]
      exact (i_add e6 (show (1 : Int32).toInt = 1 from rfl) (by omega) (by omega)).trans (by omega)
    unfold f_X12_rules_L54
    refine ⟨fun c => ?_, fun c => ?_⟩
    · have c := (i_le (show (8 : Int32).toInt = 8 from rfl) e6).mp c
      have ek : k = 8 := by omega
      subst ek
      refine ⟨25, ru_L105 w v0 u5 h5 m em hm v1 v2 v3 v4 hv1 v5.toInt b5 (SM (I u5) m v1 v2 v4) ?_ hK 25 0 v5 0 rfl (by omega) ?_ (by omega)⟩
      · unfold SM
        by_cases z : v1 = 0
        · rw [if_pos z, if_pos z, e5, if_pos z, Int.add_zero]; rfl
        · rw [if_neg z, if_neg z, e5, if_neg z, Int.zero_add]
      · by_cases z : v1 = 0
        · rw [if_pos z, Int.add_zero]
        · rw [if_neg z]
          show _ = v5.toInt + 0
          rw [Int.add_zero]
    · have c := (not_congr (i_le (show (8 : Int32).toInt = 8 from rfl) e6)).mp c
      refine ⟨fun c1 => ?_, fun c1 => ?_⟩
      · unfold f_X12_rules_b92 f_X12_rules_b93
        intro x39 e39 x40 e40
        refine ih (k + 1) x39 x40 (nx x40 e40 (by omega)) (by omega) ?_ (by omega)
        rw [e39, if_neg c1, i_add rfl (show (0 : Int32).toInt = 0 from rfl) (by omega) (by omega), e5, if_neg c1]
        rfl
      · have h2 := hv2 c1
        have q2 := i_nat (x := v2) rfl h2.1
        have s6 : v6 = Int32.ofNat k := (i_eq e6 (i_nI (n := k) (by omega))).mpr rfl
        rw [if_pos c1] at e5
        refine x12_has s6 (fun hb => ?_) (fun hb => ?_)
        · refine ⟨fun c2 => absurd c2 n10, fun c2 => ?_⟩
          intro b52 hb52
          cases h5.symm.trans hb52
          have a2 : (((8 : Int32) * v2) + v6).toInt = 8 * v2.toInt + (k : Int) := i_add (i_mul (show (8 : Int32).toInt = 8 from rfl) rfl (by omega) (by omega)) e6 (by omega) (by omega)
          have qa : (((8 : Int32) * v2) + v6).toNatClampNeg = 8 * v2.toNatClampNeg + k := by have := i_nat a2 (by omega); omega
          have o := ok (8 * v2.toNatClampNeg + k) (by omega)
          refine ⟨vi_of a2 (by omega) (by omega), ?_⟩
          unfold f_X12_rules_b93
          intro x39 e39 x40 e40
          rw [qa] at e39
          refine ih (k + 1) x39 x40 (nx x40 e40 (by omega)) (by omega) ?_ (by omega)
          rw [e39, if_pos c1, i_add e5 rfl (by omega) (by omega)]
          show _ = shS (fun k => if hbt v4 k = true then (I u5 (8 * v2.toNatClampNeg + k)).toInt else 0) k + (if hbt v4 k = true then (I u5 (8 * v2.toNatClampNeg + k)).toInt else 0)
          rw [if_pos hb]
        · refine ⟨fun c2 => ?_, fun c2 => absurd rfl c2⟩
          unfold f_X12_rules_b92 f_X12_rules_b93
          intro x39 e39 x40 e40
          refine ih (k + 1) x39 x40 (nx x40 e40 (by omega)) (by omega) ?_ (by omega)
          rw [e39, if_pos c1, i_add e5 (show (0 : Int32).toInt = 0 from rfl) (by omega) (by omega)]
          show _ = shS (fun k => if hbt v4 k = true then (I u5 (8 * v2.toNatClampNeg + k)).toInt else 0) k + (if hbt v4 k = true then (I u5 (8 * v2.toNatClampNeg + k)).toInt else 0)
          rw [hb, if_neg (by decide)]
/-! ===== rules: all sets, the reference ===== -/
def RULo (n : Nat) (v1 v2 : Int32) : Prop := 1 ≤ n ∧ (0 ≤ v1.toInt ∧ v1.toInt ≤ 1) ∧ (v1 = 0 → 0 ≤ v2.toInt ∧ v2.toInt < (n : Int))
def RULm (T : Nat → Int32) (n : Nat) (v1 v2 r : Int32) : Prop := (¬ RULo n v1 v2 ∧ r.toInt = -1) ∨ (RULo n v1 v2 ∧ r = bcV (fwM (SM T n v1 v2) (if v1 = 0 then 720 else (n : Int)) 255))
theorem ru_L40 {Z : jZ} {I : jI} {L : jL} (w : WD Z I) (v0 : Nat) (kv0 : jk Z v0 12) (u5 : Nat) (h5 : jr Z v0 5 = some u5) (m : Nat) (em : (I v0 0).toInt = (m : Int)) (hm : m ≤ 24) (ok : ∀ z, z < 8 * m → 0 ≤ (I u5 z).toInt ∧ (I u5 z).toInt ≤ 720) (v1 v2 : Int32) (hv1 : v1 = 0 ∨ v1 = 1) (hv2 : v1 = 0 → 0 ≤ v2.toInt ∧ v2.toInt < (m : Int)) {Q : Int32 → jI → jL → Prop}
    (hQ : ∀ (r : Int32) (I' : jI) (L' : jL), WD Z I' → FR Ws_X12_tell Z I Z I' → r = bcV (fwM (SM (I u5) m v1 v2) (if v1 = 0 then 720 else (m : Int)) 255) → Q r I' L') :
    ∀ (n k : Nat) (v3 v4 : Int32), v4.toInt = ((k + 1 : Nat) : Int) → k ≤ 255 → v3 = fwM (SM (I u5) m v1 v2) (if v1 = 0 then 720 else (m : Int)) k → 256 ≤ n + k → f_X12_rules_L40 Z Q n v0 v1 v2 v3 v4 I L := by
  intro n
  induction n with
  | zero => intro k v3 v4 e4 hk e3 hn; exfalso; omega
  | succ n ih =>
    intro k v3 v4 e4 hk e3 hn
    unfold f_X12_rules_L40
    refine ⟨fun c => ?_, fun c => ?_⟩
    · have c := (i_le (show (256 : Int32).toInt = 256 from rfl) e4).mp c
      have ek : k = 255 := by omega
      subst ek
      intro I1 e1
      have w1 : WD Z I1 := by rw [e1]; exact WD_putF w 12 21 kv0 (by decide) (by decide) (show rg 0 40 _ from ⟨by decide, by decide⟩)
      have f1 : FR Ws_X12_tell Z I Z I1 := by rw [e1]; exact FR_putF kv0 (by decide) (by decide)
      refine s_X12_tell w1 v0 _ kv0 (by rw [e1, jpI_at]; decide) (fun I2 L2 w2 f2 _ => ?_)
      refine s_J6_bitCount_0f7a4 w2 v3 (fun r p => ?_)
      exact hQ r I2 L2 w2 (f1.trans w.1 w.2.1 f2) (by rw [p.1, e3])
    · have c := (not_congr (i_le (show (256 : Int32).toInt = 256 from rfl) e4)).mp c
      have s4 : v4 = Int32.ofNat (k + 1) := (i_eq e4 (i_nI (n := k + 1) (by omega))).mpr rfl
      refine ⟨9, ru_L54 w v0 u5 h5 m em hm ok v1 v2 v3 v4 hv1 hv2 (fun x4 ex4 => ?_) 9 0 0 0 rfl (by omega) ?_ (by omega)⟩
      · refine ih (k + 1) _ x4 ?_ (by omega) ?_ (by omega)
        · rw [ex4]; exact (i_add e4 (show (1 : Int32).toInt = 1 from rfl) (by omega) (by omega)).trans (by omega)
        · rw [e3, s4]
          rfl
      · split <;> rfl
theorem s17_X12_rules {Z : jZ} {I : jI} {L : jL} (w : WD Z I) (v0 : Nat) (v1 v2 : Int32) (kv0 : jk Z v0 12) (u5 u53 u54 : Nat) (pm : PMs Z v0 u5 u53 u54) (n : Nat) (en : (I v0 0).toInt = (n : Int)) (ok : OWP n (I u5)) {Q : Int32 → jI → jL → Prop} (hQ : ∀ (r : Int32) (I' : jI) (L' : jL), WD Z I' → FR Ws_X12_rules Z I Z I' → RULm (I u5) n v1 v2 r → Q r I' L') : f_X12_rules v0 v1 v2 Z I L Q := by
  obtain ⟨h5, k5, -⟩ := pm
  have t0 : 0 ≤ (I v0 0).toInt ∧ (I v0 0).toInt ≤ 24 := w.fld 12 0 kv0 (by decide)
  have z0 : (0 : Int32).toInt = 0 := rfl
  have z1 : (1 : Int32).toInt = 1 := rfl
  unfold f_X12_rules
  intro I1 e1
  have w1 : WD Z I1 := by rw [e1]; exact WD_putF w 12 22 kv0 (by decide) (by decide) trivial
  have f1 : FR Ws_X12_rules Z I Z I1 := by rw [e1]; exact FR_putF kv0 (by decide) (by decide)
  have s0 : (I1 v0 0).toInt = (n : Int) := by rw [e1, jpI_o (by decide)]; exact en
  have o5 : I1 u5 = I u5 := by rw [e1]; exact jpI_ne (ks_ne k5 kv0 (by decide))
  have bad : ∀ L', ¬ RULo n v1 v2 → Q (-1 : Int32) I1 L' := fun L' h => hQ _ I1 L' w1 f1 (Or.inl ⟨h, rfl⟩)
  have go : 1 ≤ n → (0 ≤ v1.toInt ∧ v1.toInt ≤ 1) → (v1 = 0 → 0 ≤ v2.toInt ∧ v2.toInt < (n : Int)) → f_X12_rules_b35 Z Q v0 v1 v2 I1 L := by
    intro a1 a2 a3
    have hv1 : v1 = 0 ∨ v1 = 1 := by
      rcases (show v1.toInt = 0 ∨ v1.toInt = 1 by omega) with h | h
      · exact Or.inl ((i_eq h z0).mpr rfl)
      · exact Or.inr ((i_eq h z1).mpr rfl)
    unfold f_X12_rules_b35
    refine ⟨256, ru_L40 w1 v0 kv0 u5 h5 n s0 (by omega) (fun z hz => by rw [o5]; exact OWP_le ok hz) v1 v2 hv1 a3 (fun r I2 L2 w2 f2 hr => ?_) 256 0 0 1 rfl (by omega) rfl (by omega)⟩
    rw [o5] at hr
    exact hQ r I2 L2 w2 (f1.trans w.1 w.2.1 (f2.mono (by decide))) (Or.inr ⟨⟨a1, a2, a3⟩, hr⟩)
  refine ⟨fun c => bad _ (fun h => by have c := yz c; have := h.1; omega), fun c => ?_⟩
  have c := nz c
  refine s_X12_in w1 _ _ _ (fun r p => ⟨fun c2 => bad _ (fun h => by have c2 := yz c2; have := h.2.1; omega), fun c2 => ?_⟩)
  have c2 := nz c2
  refine ⟨fun c3 => go (by omega) (by omega) (fun e => absurd e c3), fun c3 => ?_⟩
  refine s_X12_isStep w1 v0 v2 kv0 (fun r2 p2 => ⟨fun c4 => ?_, fun c4 => ?_⟩)
  · have c4 := nz c4
    exact go (by omega) (by omega) (fun _ => by omega)
  · have c4 := yz c4
    refine bad _ (fun h => ?_)
    have := h.2.2 c3
    omega
/-! the class: a STEP's PARTS into the division -/
theorem si_L2 {Z : jZ} {J : jI} (wJ : WD Z J) (v0 : Nat) (k0 : jk Z v0 4) (x0 : Nat) (h0 : jr Z v0 0 = some x0) (kx : jk Z x0 14) (o : Nat) (ko : jk Z o 11) (d6 : Nat) (h6 : jr Z o 6 = some d6) (k6 : jk Z d6 14) (l6 : jlen Z d6 = 8) (v1 : Int32) (s : Nat) (e1 : v1.toInt = (s : Int)) (hs : s < 24) {Q : jI → jL → Prop}
    (hQ : ∀ (I : jI) (L : jL), WD Z I → FR [(11, 6)] Z J Z I → (∀ f, f < 8 → I d6 f = J x0 (8 * s + f)) → Q I L) :
    ∀ (n f : Nat) (v3 : Int32) (I : jI) (L : jL), WD Z I → FR [(11, 6)] Z J Z I → v3.toInt = (f : Int) → f ≤ 8 → (∀ i, i < f → I d6 i = J x0 (8 * s + i)) → 9 ≤ n + f → f_X4_shareInto_L2 Z Q n v0 v1 d6 v3 I L := by
  have zn : (nI (jlen Z d6)).toInt = 8 := by rw [l6]; exact i_nI (n := 8) (by omega)
  intro n
  induction n with
  | zero => intro f v3 I L w fr e3 hf h1 hn; exfalso; omega
  | succ n ih =>
    intro f v3 I L w fr e3 hf h1 hn
    have y0 : I x0 = J x0 := fr.2.2.2 v0 4 0 x0 k0 h0 (by rw [kx.2]; rfl) rfl (by decide)
    unfold f_X4_shareInto_L2
    refine ⟨fun c => ?_, fun c => ⟨fun c2 => ?_, fun c2 => ?_⟩⟩
    · have c := (i_le (show (8 : Int32).toInt = 8 from rfl) e3).mp c
      exact hQ I L w fr (fun f' hf' => h1 f' (by omega))
    · have c2 := (i_le zn e3).mp c2
      exact hQ I L w fr (fun f' hf' => h1 f' (by omega))
    · have c := (not_congr (i_le (show (8 : Int32).toInt = 8 from rfl) e3)).mp c
      have q3 : v3.toNatClampNeg = f := by have := i_nat e3 (by omega); omega
      refine s15_X4_shareOf w v0 v1 v3 k0 x0 h0 s f e1 e3 hs (by omega) ?_
      refine ⟨by rw [l6]; exact vi_of e3 (by omega) (by omega), ?_⟩
      intro I11 e11 x12 e12
      rw [q3, y0] at e11
      refine ih (f + 1) x12 I11 L ?_ ?_ ?_ (by omega) (fun i hi => ?_) (by omega)
      · rw [e11]; exact WD_putA w 11 6 ko h6 k6 rfl rfl (by decide) trivial
      · refine fr.trans wJ.1 wJ.2.1 ?_
        rw [e11]; exact FR_upA w.2.1 ko h6 k6 rfl rfl List.mem_cons_self
      · rw [e12]; exact (i_add e3 (show (1 : Int32).toInt = 1 from rfl) (by omega) (by omega)).trans (by omega)
      · by_cases hif : i = f
        · rw [hif, e11, jpI_at]
        · rw [e11, jpI_off hif]; exact h1 i (by omega)
end
