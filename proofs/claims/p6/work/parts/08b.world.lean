/-! ===== the world: what holds of all cells between calls ===== -/
abbrev rg (lo hi : Int) (v : Int32) : Prop := lo ≤ v.toInt ∧ v.toInt ≤ hi
def okF : Nat → Nat → Int32 → Prop := fun c j v => match c, j with
  | 1, 6 => rg 0 24 v
  | 3, 3 => rg 0 40 v
  | 3, 5 => rg 0 40 v
  | 4, 3 => rg 0 7 v
  | 4, 4 => rg 0 8 v
  | 5, 2 => rg 0 3 v
  | 5, 5 => rg (-1) 23 v
  | 6, 3 => rg 0 3 v
  | 6, 15 => rg 0 24 v
  | 8, 9 => rg 0 24 v
  | 9, 5 => rg 0 24 v
  | 10, 1 => rg 0 80 v
  | 11, 4 => rg 0 6 v
  | 11, 16 => rg 0 26 v
  | 12, 0 => rg 0 24 v
  | 12, 8 => rg 0 6 v
  | 12, 19 => rg 0 80 v
  | 12, 21 => rg 0 40 v
  | 12, 39 => rg (-1) 23 v
  | 12, 43 => rg 0 24 v
  | 12, 52 => rg 0 8 v
  | _, _ => True
/-- what is kept: by its place -/
def okK (m : Nat) (v : Int32) : Prop := (m < 48 → m % 2 = 0 → rg 0 9 v) ∧ (m < 48 → m % 2 = 1 → rg 0 20 v) ∧ (240 ≤ m → m < 258 → m % 3 = 0 → rg (-1) 23 v)
def okA : Nat → Nat → Nat → Int32 → Prop := fun c j i v => match c, j with
  | 1, 2 => rg (-1) 23 v
  | 2, 1 => rg 0 20 v
  | 2, 4 => rg (-1) 23 v
  | 4, 1 => rg 0 7 v
  | 6, 4 => rg 0 297 v
  | 8, 2 => rg 0 20 v
  | 9, 2 => rg 0 20 v
  | 12, 1 => rg 0 30 v
  | 12, 2 => rg 0 9 v
  | 12, 3 => rg 0 20 v
  | 12, 9 => rg 0 120 v
  | 12, 10 => rg 0 999 v
  | 12, 11 => rg 0 3 v
  | 12, 12 => rg 0 50 v
  | 12, 14 => rg (-1) 23 v
  | 12, 28 => (i % 5 = 0 → rg 0 30 v) ∧ (i % 5 = 1 → rg 0 9 v) ∧ (i % 5 = 2 → rg 0 20 v)
  | 12, 30 => rg 0 40 v
  | 12, 44 => rg 0 23 v
  | 12, 55 => rg 0 23 v
  | 12, 56 => rg 0 24 v
  | 12, 57 => rg 0 24 v
  | 12, 62 => okK (i % 266) v
  | _, _ => True
/-- fields whose references are shared: Routes.stairs, Model.read -/
def jsr (c j : Nat) : Bool := (c == 6 && j == 0) || (c == 12 && j == 23)
/-- kinds of arrays of ints -/
def jia (k : Nat) : Bool := k == 13 || k == 14 || k == 16
/-- each cell is held by one field (or place of an array) at most, and all references lie in the pool -/
def UQ (Z : jZ) : Prop := Z.1.Nodup ∧ (∀ a c j b, jk Z a c → jr Z a j = some b → b ∈ Z.1) ∧
  ∀ a c j a' c' j' b, jk Z a c → jk Z a' c' → jr Z a j = some b → jr Z a' j' = some b → jsr c j = false → jsr c' j' = false → a = a' ∧ j = j'
/-- what ints of fields and arrays keep to -/
def OK (Z : jZ) (I : jI) : Prop :=
  (∀ a c j, jk Z a c → c < 13 → okF c j (I a j)) ∧
  (∀ a c j b, jk Z a c → jr Z a j = some b → jia (Z.2.1 b) = true → jsr c j = false → ∀ i, okA c j i (I b i))
/-- how long rows of keys may grow: those of ByCost further than those of Routes -/
noncomputable def capN (Z : jZ) (a : Nat) : Nat := @ite _ (∃ r, jk Z r 0 ∧ jr Z r 0 = some a) (Classical.propDecidable _) 1048576 131072
/-- lengths that come of 64 by doubling -/
def pw (n : Nat) : Prop := n = 64 ∨ n = 128 ∨ n = 256 ∨ n = 512 ∨ n = 1024 ∨ n = 2048 ∨ n = 4096 ∨ n = 8192 ∨ n = 16384 ∨ n = 32768 ∨ n = 65536 ∨ n = 131072 ∨ n = 262144 ∨ n = 524288 ∨ n = 1048576
/-- the rows of keys -/
def RI1 (Z : jZ) (I : jI) (a b0 b1 b2 b4 : Nat) : Prop :=
  (0 ≤ (I a 3).toInt ∧ (I a 3).toInt ≤ (jlen Z b0 : Int) ∧ jlen Z b0 ≤ 1048576 ∧ 64 ≤ jlen Z b0)
  ∧ pw (jlen Z b0) ∧ jlen Z b0 ≤ capN Z a
  ∧ (∀ p, p < 25 → 0 ≤ (I b2 p).toInt ∧ (0 < (I b2 p).toInt → 0 ≤ (I b1 p).toInt ∧ (I b1 p).toInt + (I b2 p).toInt ≤ (I a 3).toInt))
  ∧ (0 ≤ (I a 8).toInt ∧ (I a 8).toInt ≤ 3 ∧ 0 ≤ (I a 9).toInt ∧ (I a 9).toInt ≤ (I a 8).toInt * 1048576)
  ∧ (∀ p : Nat, (p : Int) < (I a 8).toInt → 0 ≤ (I b4 p).toInt ∧ (I b4 p).toInt + (I a 9).toInt ≤ ((I a 8).toInt + 1) * 1048576)
def RI (Z : jZ) (I : jI) : Prop := ∀ a b0 b1 b2 b4, jk Z a 7 → jr Z a 0 = some b0 → jr Z a 1 = some b1 → jr Z a 2 = some b2 → jr Z a 4 = some b4 → RI1 Z I a b0 b1 b2 b4
def WD (Z : jZ) (I : jI) : Prop := SH Z ∧ UQ Z ∧ OK Z I ∧ RI Z I
theorem WD.fld {Z : jZ} {I : jI} {a : Nat} (h : WD Z I) (c j : Nat) (ha : jk Z a c) (hc : c < 13) : okF c j (I a j) := h.2.2.1.1 a c j ha hc
theorem WD.arr {Z : jZ} {I : jI} {a b k : Nat} (h : WD Z I) (c j : Nat) (ha : jk Z a c) (e : jr Z a j = some b) (hb : jk Z b k) (hk : jia k = true) (hs : jsr c j = false) (i : Nat) : okA c j i (I b i) :=
  h.2.2.1.2 a c j b ha e (by rw [hb.2]; exact hk) hs i
/-- from (Z, I) to (Z', I') no field and no array has changed but those of W; references stay but for Rows.keys and Model.read -/
def FR (W : List (Nat × Nat)) (Z : jZ) (I : jI) (Z' : jZ) (I' : jI) : Prop :=
  jext Z Z' ∧ (∀ a c j, jk Z a c → ¬ (c = 7 ∧ j = 0) → ¬ (c = 12 ∧ j = 23) → jr Z' a j = jr Z a j)
  ∧ (∀ a c j, jk Z a c → c < 13 → (c, j) ∉ W → I' a j = I a j)
  ∧ (∀ a c j b, jk Z a c → jr Z a j = some b → jia (Z.2.1 b) = true → jsr c j = false → (c, j) ∉ W → I' b = I b)
theorem FR.rf {W : List (Nat × Nat)} {Z : jZ} {I : jI} : FR W Z I Z I := ⟨jext_rfl, fun _ _ _ _ _ _ => rfl, fun _ _ _ _ _ _ => rfl, fun _ _ _ _ _ _ _ _ _ => rfl⟩
theorem FR.mono {W W' : List (Nat × Nat)} {Z Z' : jZ} {I I' : jI} (h : FR W Z I Z' I') (s : ∀ p ∈ W, p ∈ W') : FR W' Z I Z' I' :=
  ⟨h.1, h.2.1, fun a c j ha hc hn => h.2.2.1 a c j ha hc (fun q => hn (s _ q)), fun a c j b ha e k1 hs hn => h.2.2.2 a c j b ha e k1 hs (fun q => hn (s _ q))⟩
theorem FR.trans {W : List (Nat × Nat)} {Z Z' Z'' : jZ} {I I' I'' : jI} (sh : SH Z) (uq : UQ Z) (h : FR W Z I Z' I') (h' : FR W Z' I' Z'' I'') : FR W Z I Z'' I'' := by
  refine ⟨jext_trans h.1 h'.1, fun a c j ha h7 h12 => ?_, fun a c j ha hc hn => ?_, fun a c j b ha e k1 hs hn => ?_⟩
  · rw [h'.2.1 a c j (h.1 a c ha).1 h7 h12, h.2.1 a c j ha h7 h12]
  · rw [h'.2.2.1 a c j (h.1 a c ha).1 hc hn, h.2.2.1 a c j ha hc hn]
  · have hb : jk Z b (Z.2.1 b) := ⟨uq.2.1 a c j b ha e, rfl⟩
    have hb' := (h.1 b _ hb).1
    have h7 : ¬ (c = 7 ∧ j = 0) := fun q => by
      obtain ⟨rfl, rfl⟩ := q
      obtain ⟨b', e', kb⟩ := sh_o sh ha (j := 0) (k := 15) rfl
      rw [e] at e'; cases e'
      rw [kb.2] at k1; cases k1
    have h12 : ¬ (c = 12 ∧ j = 23) := fun q => by rw [q.1, q.2] at hs; cases hs
    rw [h'.2.2.2 a c j b (h.1 a c ha).1 (by rw [h.2.1 a c j ha h7 h12]; exact e) (by rw [hb'.2]; exact k1) hs hn, h.2.2.2 a c j b ha e k1 hs hn]
theorem jia_13 {k : Nat} (h : jia k = true) : 13 ≤ k := by
  unfold jia at h; simp at h; omega
theorem FR_putF {W : List (Nat × Nat)} {Z : jZ} {I : jI} {a c j : Nat} {v : Int32} (ha : jk Z a c) (hc : c < 13) (hw : (c, j) ∈ W) : FR W Z I Z (jpI I a j v) := by
  refine ⟨jext_rfl, fun _ _ _ _ _ _ => rfl, fun a' c' j' ha' hc' hn => ?_, fun a' c' j' b ha' e k1 hs hn => ?_⟩
  · by_cases h : a' = a
    · subst h
      cases ha.2.symm.trans ha'.2
      show va_up I a' (upd (I a') j v) a' j' = _
      rw [va_up_self]
      exact if_neg (fun (q : j' = j) => hn (by rw [q]; exact hw))
    · exact congrFun (va_up_ne _ _ h) j'
  · have hb : b ≠ a := fun q => by
      subst q
      have := jia_13 k1
      have := ha.2
      omega
    exact va_up_ne _ _ hb
theorem FR_upA {W : List (Nat × Nat)} {Z : jZ} {I : jI} {a c j b k : Nat} {f : Nat → Int32} (uq : UQ Z) (ha : jk Z a c) (e : jr Z a j = some b) (hb : jk Z b k) (hk : jia k = true) (hs : jsr c j = false) (hw : (c, j) ∈ W) : FR W Z I Z (va_up I b f) := by
  refine ⟨jext_rfl, fun _ _ _ _ _ _ => rfl, fun a' c' j' ha' hc' hn => ?_, fun a' c' j' b' ha' e' k1 hs' hn => ?_⟩
  · have h : a' ≠ b := fun q => by
      subst q
      have := jia_13 hk
      have := hb.2
      have := ha'.2
      omega
    exact congrFun (va_up_ne _ _ h) j'
  · have h : b' ≠ b := fun q => by
      subst q
      obtain ⟨rfl, rfl⟩ := uq.2.2 a c j a' c' j' b' ha ha' e e' hs hs'
      cases ha.2.symm.trans ha'.2
      exact hn hw
    exact va_up_ne _ _ h
theorem RI_fr {W : List (Nat × Nat)} {Z : jZ} {I I' : jI} (sh : SH Z) (h : RI Z I) (f : FR W Z I Z I') (hw : ∀ j, (7, j) ∉ W) : RI Z I' := by
  intro a b0 b1 b2 b4 ha e0 e1 e2 e4
  have g := h a b0 b1 b2 b4 ha e0 e1 e2 e4
  have k1 : jk Z b1 14 := by obtain ⟨b, e, kb, -⟩ := sh_f sh ha (j := 1) (k := 14) (m := 25) rfl; rw [e1] at e; cases e; exact kb
  have k2 : jk Z b2 14 := by obtain ⟨b, e, kb, -⟩ := sh_f sh ha (j := 2) (k := 14) (m := 25) rfl; rw [e2] at e; cases e; exact kb
  have k4 : jk Z b4 14 := by obtain ⟨b, e, kb, -⟩ := sh_f sh ha (j := 4) (k := 14) (m := 3) rfl; rw [e4] at e; cases e; exact kb
  unfold RI1 at g ⊢
  rw [f.2.2.1 a 7 3 ha (by decide) (hw 3), f.2.2.1 a 7 8 ha (by decide) (hw 8), f.2.2.1 a 7 9 ha (by decide) (hw 9), f.2.2.2 a 7 1 b1 ha e1 (by rw [k1.2]; rfl) rfl (hw 1), f.2.2.2 a 7 2 b2 ha e2 (by rw [k2.2]; rfl) rfl (hw 2), f.2.2.2 a 7 4 b4 ha e4 (by rw [k4.2]; rfl) rfl (hw 4)]
  exact g
theorem WD_putF {Z : jZ} {I : jI} {a : Nat} {v : Int32} (w : WD Z I) (c j : Nat) (ha : jk Z a c) (hc : c < 13) (h7 : c ≠ 7) (ok : okF c j v) : WD Z (jpI I a j v) := by
  refine ⟨w.1, w.2.1, ⟨fun a' c' j' ha' hc' => ?_, fun a' c' j' b ha' e k1 hs i => ?_⟩, RI_fr w.1 w.2.2.2 (FR_putF (W := [(c, j)]) ha hc List.mem_cons_self) (fun i q => h7 (by cases List.mem_singleton.mp q; rfl))⟩
  · by_cases h : a' = a
    · subst h
      cases ha.2.symm.trans ha'.2
      show okF _ j' (va_up I a' (upd (I a') j v) a' j')
      rw [va_up_self]
      by_cases h2 : j' = j
      · subst h2
        rw [show upd (I a') j' v j' = v from if_pos rfl]
        exact ok
      · rw [show upd (I a') j v j' = I a' j' from if_neg h2]
        exact w.2.2.1.1 _ _ _ ha' hc'
    · rw [show jpI I a j v a' j' = I a' j' from congrFun (va_up_ne _ _ h) j']
      exact w.2.2.1.1 _ _ _ ha' hc'
  · have hb : b ≠ a := fun q => by
      subst q
      have := jia_13 k1
      have := ha.2
      omega
    rw [show jpI I a j v b = I b from va_up_ne _ _ hb]
    exact w.2.2.1.2 _ _ _ _ ha' e k1 hs i
theorem WD_upA {Z : jZ} {I : jI} {a b k : Nat} {f : Nat → Int32} (w : WD Z I) (c j : Nat) (ha : jk Z a c) (e : jr Z a j = some b) (hb : jk Z b k) (hk : jia k = true) (hs : jsr c j = false) (h7 : c ≠ 7) (ok : ∀ i, okA c j i (f i)) : WD Z (va_up I b f) := by
  refine ⟨w.1, w.2.1, ⟨fun a' c' j' ha' hc' => ?_, fun a' c' j' b' ha' e' k1 hs' i => ?_⟩, RI_fr w.1 w.2.2.2 (FR_upA (W := [(c, j)]) w.2.1 ha e hb hk hs List.mem_cons_self) (fun i q => h7 (by cases List.mem_singleton.mp q; rfl))⟩
  · have h : a' ≠ b := fun q => by
      subst q
      have := jia_13 hk
      have := hb.2
      have := ha'.2
      omega
    rw [show va_up I b f a' = I a' from va_up_ne _ _ h]
    exact w.2.2.1.1 _ _ _ ha' hc'
  · by_cases h : b' = b
    · subst h
      obtain ⟨rfl, rfl⟩ := w.2.1.2.2 a c j a' c' j' b' ha ha' e e' hs hs'
      cases ha.2.symm.trans ha'.2
      rw [va_up_self]
      exact ok i
    · rw [show va_up I b f b' = I b' from va_up_ne _ _ h]
      exact w.2.2.1.2 _ _ _ _ ha' e' k1 hs' i
theorem WD_putA {Z : jZ} {I : jI} {a b k i : Nat} {v : Int32} (w : WD Z I) (c j : Nat) (ha : jk Z a c) (e : jr Z a j = some b) (hb : jk Z b k) (hk : jia k = true) (hs : jsr c j = false) (h7 : c ≠ 7) (ok : okA c j i v) : WD Z (jpI I b i v) := by
  refine WD_upA w c j ha e hb hk hs h7 (fun q => ?_)
  by_cases h : q = i
  · subst h
    rw [show upd (I b) q v q = v from if_pos rfl]
    exact ok
  · rw [show upd (I b) i v q = I b q from if_neg h]
    exact w.arr c j ha e hb hk hs q
/-- a copy of an array into another -/
theorem WD_cpy {Z : jZ} {I : jI} {a b k : Nat} {g : Nat → Int32} {sp dp n : Nat} (w : WD Z I) (c j : Nat) (ha : jk Z a c) (e : jr Z a j = some b) (hb : jk Z b k) (hk : jia k = true) (hs : jsr c j = false) (h7 : c ≠ 7) (ok : ∀ q, dp ≤ q → q < dp + n → okA c j q (g (sp + (q - dp)))) : WD Z (va_up I b (va_cpy g (I b) sp dp n)) := by
  refine WD_upA w c j ha e hb hk hs h7 (fun q => ?_)
  unfold va_cpy
  by_cases h : dp ≤ q ∧ q < dp + n
  · rw [if_pos h]
    exact ok q h.1 h.2
  · rw [if_neg h]
    exact w.arr c j ha e hb hk hs q
theorem jpI_at {I : jI} {a j : Nat} {v : Int32} : jpI I a j v a j = v := by
  show va_up I a (upd (I a) j v) a j = v
  rw [va_up_self]; exact if_pos rfl
theorem jpI_off {I : jI} {a j i : Nat} {v : Int32} (h : i ≠ j) : jpI I a j v a i = I a i := by
  show va_up I a (upd (I a) j v) a i = I a i
  rw [va_up_self]; exact if_neg h
theorem jpI_ne {I : jI} {a b j : Nat} {v : Int32} (h : b ≠ a) : jpI I a j v b = I b := va_up_ne _ _ h
/-- the EFFORT in a key -/
def effV (v0 : Int64) : Int32 := ((((v0.toUInt64 >>> ((29 : Int32).toInt64.toUInt64 &&& Int64.toUInt64 63)).toInt64).toInt32) &&& (4095 : Int32))
/-- Integer.bitCount -/
def bcV (v0 : Int32) : Int32 :=
  let x1 : Int32 := (v0 - (((v0.toUInt32 >>> ((1 : Int32).toUInt32 &&& Int32.toUInt32 31)).toInt32) &&& (1431655765 : Int32)))
  let x2 : Int32 := ((x1 &&& (858993459 : Int32)) + (((x1.toUInt32 >>> ((2 : Int32).toUInt32 &&& Int32.toUInt32 31)).toInt32) &&& (858993459 : Int32)))
  let x3 : Int32 := ((x2 + ((x2.toUInt32 >>> ((4 : Int32).toUInt32 &&& Int32.toUInt32 31)).toInt32)) &&& (252645135 : Int32))
  let x4 : Int32 := (x3 + ((x3.toUInt32 >>> ((8 : Int32).toUInt32 &&& Int32.toUInt32 31)).toInt32))
  let x5 : Int32 := (x4 + ((x4.toUInt32 >>> ((16 : Int32).toUInt32 &&& Int32.toUInt32 31)).toInt32))
  x5 &&& (63 : Int32)
theorem bc_pos {v : Int32} (h1 : 1 ≤ v.toInt) (h2 : v.toInt ≤ 255) : ¬ (bcV v).toInt = 0 := by
  have key : ∀ k : Fin 256, 1 ≤ k.val → ¬ (bcV (Int32.ofNat k.val)).toInt = 0 := by decide +kernel
  have hn := i_nat (x := v) rfl (by omega)
  have hk : v.toNatClampNeg < 256 := by omega
  have e : v = Int32.ofNat v.toNatClampNeg := (i_eq rfl (i_nI (n := v.toNatClampNeg) (by omega))).mpr (by omega)
  rw [e]
  exact key ⟨v.toNatClampNeg, hk⟩ (by show 1 ≤ v.toNatClampNeg; omega)
theorem l720 {x : Int32} (h1 : 1 ≤ x.toInt) (h2 : x.toInt ≤ 24) : ¬ (720 : Int64) * x.toInt64 = 0 := by
  intro h
  have := congrArg Int64.toInt h
  rw [Int64.toInt_mul, Int32.toInt_toInt64, show (720 : Int64).toInt = 720 from rfl, show (0 : Int64).toInt = 0 from rfl, Int.bmod_def] at this
  omega
theorem tkF {x r : Int32} {k m : Int} (h : okA 12 62 x.toNatClampNeg r) (hk : 0 ≤ k ∧ k ≤ 1) (hm : x.toInt = 266 * k + m) (h0 : 0 ≤ m ∧ m < 266) : (m < 48 → m % 2 = 0 → 0 ≤ r.toInt ∧ r.toInt ≤ 9) ∧ (m < 48 → m % 2 = 1 → 0 ≤ r.toInt ∧ r.toInt ≤ 20) ∧ (240 ≤ m → m < 258 → m % 3 = 0 → -1 ≤ r.toInt ∧ r.toInt ≤ 23) := by
  have hn := i_nat (x := x) rfl (by omega)
  have h : okK (x.toNatClampNeg % 266) r := h
  have e : ((x.toNatClampNeg % 266 : Nat) : Int) = m := by omega
  obtain ⟨g1, g2, g3⟩ := h
  exact ⟨fun a b => g1 (by omega) (by omega), fun a b => g2 (by omega) (by omega), fun a b c => g3 (by omega) (by omega) (by omega)⟩
theorem ptF {x v : Int32} {k m : Int} (hk : 0 ≤ k ∧ k ≤ 1) (hm : x.toInt = 266 * k + m) (h0 : 0 ≤ m ∧ m < 266) (h : (m < 48 → m % 2 = 0 → 0 ≤ v.toInt ∧ v.toInt ≤ 9) ∧ (m < 48 → m % 2 = 1 → 0 ≤ v.toInt ∧ v.toInt ≤ 20) ∧ (240 ≤ m → m < 258 → m % 3 = 0 → -1 ≤ v.toInt ∧ v.toInt ≤ 23)) : okA 12 62 x.toNatClampNeg v := by
  have hn := i_nat (x := x) rfl (by omega)
  have e : ((x.toNatClampNeg % 266 : Nat) : Int) = m := by omega
  show okK _ _
  obtain ⟨g1, g2, g3⟩ := h
  exact ⟨fun a b => g1 (by omega) (by omega), fun a b => g2 (by omega) (by omega), fun a b c => g3 (by omega) (by omega) (by omega)⟩
