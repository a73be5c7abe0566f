/-- which kind a reference field holds, and how long that is -/
def jsh : Nat → Nat → Option (Nat × Option Nat) := fun c j => match c, j with
  | 0, 0 => some (7, none)
  | 0, 1 => some (15, some 400)
  | 1, 0 => some (16, some 6)
  | 1, 1 => some (15, some 6)
  | 1, 2 => some (14, some 6)
  | 1, 3 => some (14, some 6)
  | 1, 4 => some (14, some 24)
  | 1, 5 => some (14, some 24)
  | 2, 0 => some (14, some 24)
  | 2, 1 => some (14, some 24)
  | 2, 2 => some (14, some 192)
  | 2, 3 => some (14, some 8)
  | 2, 4 => some (14, some 6)
  | 2, 5 => some (14, some 6)
  | 2, 6 => some (14, some 6)
  | 3, 0 => some (14, some 40)
  | 3, 1 => some (14, some 40)
  | 3, 2 => some (14, some 41)
  | 4, 0 => some (14, some 192)
  | 4, 1 => some (14, some 24)
  | 4, 2 => some (14, some 1536)
  | 5, 8 => some (6, none)
  | 6, 0 => some (8, none)
  | 6, 4 => some (14, some 75)
  | 6, 5 => some (14, some 75)
  | 6, 6 => some (16, some 25)
  | 6, 7 => some (14, some 25)
  | 6, 8 => some (14, some 25)
  | 6, 9 => some (7, none)
  | 6, 10 => some (7, none)
  | 6, 11 => some (15, some 21)
  | 6, 12 => some (14, some 21)
  | 6, 13 => some (14, some 21)
  | 7, 0 => some (15, none)
  | 7, 1 => some (14, some 25)
  | 7, 2 => some (14, some 25)
  | 7, 4 => some (14, some 3)
  | 7, 5 => some (14, some 3)
  | 7, 6 => some (15, some 3)
  | 7, 7 => some (15, some 3)
  | 8, 0 => some (14, some 24)
  | 8, 1 => some (14, some 24)
  | 8, 2 => some (14, some 24)
  | 8, 3 => some (14, some 24)
  | 8, 4 => some (4, none)
  | 8, 5 => some (14, some 8)
  | 8, 6 => some (3, none)
  | 8, 7 => some (3, none)
  | 8, 8 => some (14, some 7)
  | 9, 0 => some (14, some 24)
  | 9, 1 => some (14, some 24)
  | 9, 2 => some (14, some 24)
  | 9, 3 => some (14, some 24)
  | 9, 4 => some (14, some 24)
  | 10, 0 => some (13, some 80)
  | 11, 0 => some (10, none)
  | 11, 1 => some (9, none)
  | 11, 2 => some (8, none)
  | 11, 3 => some (18, some 6)
  | 11, 5 => some (14, some 8)
  | 11, 6 => some (14, some 8)
  | 11, 7 => some (14, some 8)
  | 11, 8 => some (17, some 2)
  | 11, 9 => some (0, none)
  | 11, 10 => some (1, none)
  | 11, 11 => some (14, some 3)
  | 11, 12 => some (14, some 3)
  | 11, 13 => some (14, some 21)
  | 11, 14 => some (14, some 21)
  | 11, 15 => some (15, some 26)
  | 12, 1 => some (14, some 24)
  | 12, 2 => some (14, some 24)
  | 12, 3 => some (14, some 24)
  | 12, 4 => some (16, some 24)
  | 12, 5 => some (14, some 192)
  | 12, 6 => some (16, some 64)
  | 12, 9 => some (14, some 6)
  | 12, 10 => some (14, some 6)
  | 12, 11 => some (14, some 6)
  | 12, 12 => some (14, some 6)
  | 12, 13 => some (14, some 6)
  | 12, 14 => some (14, some 6)
  | 12, 15 => some (14, some 6)
  | 12, 16 => some (14, some 6)
  | 12, 17 => some (14, some 8)
  | 12, 18 => some (13, some 80)
  | 12, 20 => some (15, some 40)
  | 12, 28 => some (14, some 120)
  | 12, 29 => some (19, some 2)
  | 12, 30 => some (14, some 2)
  | 12, 35 => some (14, some 8)
  | 12, 36 => some (15, some 8)
  | 12, 37 => some (14, some 75)
  | 12, 38 => some (14, some 75)
  | 12, 40 => some (14, some 25000)
  | 12, 44 => some (14, some 24)
  | 12, 45 => some (14, some 484000)
  | 12, 53 => some (14, some 1536)
  | 12, 54 => some (14, some 192)
  | 12, 55 => some (14, some 144)
  | 12, 56 => some (14, some 6)
  | 12, 57 => some (14, some 6)
  | 12, 58 => some (14, some 6)
  | 12, 59 => some (14, some 24)
  | 12, 61 => some (14, some 6)
  | 12, 62 => some (14, some 532)
  | 12, 63 => some (16, some 2)
  | 12, 64 => some (14, some 2)
  | 12, 65 => some (14, some 2)
  | _, _ => none
/-! ===== shapes, ends, names ===== -/
theorem vp_in_lit {i : Int32} {n : Nat} (h : decide (0 ≤ i.toInt ∧ i.toInt < (n : Int)) = true) : vp_in i n := vp_in_iff.mpr (of_decide_eq_true h)
section JNAMES
variable {G : jG} {nL pc : Nat} {lv : List (Nat × Value)} {st : List Value} {Z : jZ} {I : jI} {L : jL} {k n : Nat}
theorem j_nmI (kk : ∀ I' : jI, I' = I → jJ G nL pc lv st Z I' L k n) : jJ G nL pc lv st Z I L k n := kk I rfl
theorem j_nmL (kk : ∀ L' : jL, L' = L → jJ G nL pc lv st Z I L' k n) : jJ G nL pc lv st Z I L k n := kk L rfl
theorem j_nmZ (kk : ∀ Z' : jZ, Z' = Z → jJ G nL pc lv st Z' I L k n) : jJ G nL pc lv st Z I L k n := kk Z rfl
end JNAMES
/-- what is known of cells goes on -/
abbrev jext (Z Z' : jZ) : Prop := ∀ a k, jk Z a k → jk Z' a k ∧ jlen Z' a = jlen Z a
theorem jext_rfl {Z : jZ} : jext Z Z := fun _ _ h => ⟨h, rfl⟩
theorem jext_trans {Z Z' Z'' : jZ} (h : jext Z Z') (h' : jext Z' Z'') : jext Z Z'' := fun a k q => ⟨(h' a k (h a k q).1).1, (h' a k (h a k q).1).2.trans (h a k q).2⟩
theorem jext_putr {Z : jZ} {a j : Nat} {v : Option Nat} : jext Z (jpR Z a j v) := fun _ _ h => ⟨h, rfl⟩
/-- the shape that objects have behind their constructors -/
def SH (Z : jZ) : Prop :=
  (∀ a c, jk Z a c → ∀ j k o, jsh c j = some (k, o) → ∃ b, jr Z a j = some b ∧ jk Z b k ∧ ∀ m, o = some m → jlen Z b = m)
  ∧ (∀ a, jk Z a 18 → ∀ i b, jr Z a i = some b → jk Z b 5)
  ∧ (∀ a, jk Z a 17 → ∀ i, i < jlen Z a → ∃ b, jr Z a i = some b ∧ jk Z b 2)
  ∧ (∀ a, jk Z a 19 → ∀ i, i < jlen Z a → ∃ b, jr Z a i = some b ∧ jk Z b 13 ∧ jlen Z b = 40)
theorem sh_f {Z : jZ} {a c j k m : Nat} (h : SH Z) (hk : jk Z a c) (hs : jsh c j = some (k, some m)) : ∃ b, jr Z a j = some b ∧ jk Z b k ∧ jlen Z b = m := by
  obtain ⟨b, h1, h2, h3⟩ := h.1 a c hk j k (some m) hs
  exact ⟨b, h1, h2, h3 m rfl⟩
theorem sh_o {Z : jZ} {a c j k : Nat} (h : SH Z) (hk : jk Z a c) (hs : jsh c j = some (k, none)) : ∃ b, jr Z a j = some b ∧ jk Z b k := by
  obtain ⟨b, h1, h2, -⟩ := h.1 a c hk j k none hs
  exact ⟨b, h1, h2⟩
theorem sh_p {Z : jZ} {a i b : Nat} (h : SH Z) (hk : jk Z a 18) (e : jr Z a i = some b) : jk Z b 5 := h.2.1 a hk i b e
theorem vp_lt {i : Int32} {n : Nat} (h : vp_in i n) : i.toNatClampNeg < n := Nat.not_le.mp fun q => h (Or.inr q)
theorem sh_k {Z : jZ} {a : Nat} {i : Int32} (h : SH Z) (hk : jk Z a 17) (hi : vp_in i (jlen Z a)) : ∃ b, jr Z a i.toNatClampNeg = some b ∧ jk Z b 2 := h.2.2.1 a hk _ (vp_lt hi)
theorem sh_b {Z : jZ} {a : Nat} {i : Int32} (h : SH Z) (hk : jk Z a 19) (hi : vp_in i (jlen Z a)) : ∃ b, jr Z a i.toNatClampNeg = some b ∧ jk Z b 13 ∧ jlen Z b = 40 := h.2.2.2 a hk _ (vp_lt hi)
/-- a reference without a shape of its own is put: the shape stays -/
theorem SH_putr {Z : jZ} {a c j : Nat} {v : Option Nat} (h : SH Z) (hk : jk Z a c) (hs : jsh c j = none) (hc : c < 13 := by decide) : SH (jpR Z a j v) := by
  have e : ∀ b i, ¬ (b = a ∧ i = j) → jr (jpR Z a j v) b i = jr Z b i := by
    intro b i hn
    show va_up Z.2.2.2 a (va_up (Z.2.2.2 a) j v) b i = Z.2.2.2 b i
    by_cases hb : b = a
    · subst hb
      rw [va_up_self, va_up_ne _ _ (fun q => hn ⟨rfl, q⟩)]
    · rw [va_up_ne _ _ hb]
  refine ⟨fun b c' hb i k o hi => ?_, fun b hb i x hx => ?_, fun b hb i hi => ?_, fun b hb i hi => ?_⟩
  · rw [e b i (fun q => by obtain ⟨rfl, rfl⟩ := q; have e2 : c' = c := hb.2.symm.trans hk.2; subst e2; rw [hs] at hi; cases hi)]
    exact h.1 b c' hb i k o hi
  · rw [e b i (fun q => by obtain ⟨rfl, rfl⟩ := q; have e2 : 18 = c := hb.2.symm.trans hk.2; omega)] at hx
    exact h.2.1 b hb i x hx
  · rw [e b i (fun q => by obtain ⟨rfl, rfl⟩ := q; have e2 : 17 = c := hb.2.symm.trans hk.2; omega)]
    exact h.2.2.1 b hb i hi
  · rw [e b i (fun q => by obtain ⟨rfl, rfl⟩ := q; have e2 : 19 = c := hb.2.symm.trans hk.2; omega)]
    exact h.2.2.2 b hb i hi
/-! the ends of methods: the shape is as it was (rt..), or another one (xrt..) -/
def rtV (Z : jZ) (Q : jI → jL → Prop) : jRt := fun v Z' I' L' => Z = Z' ∧ v = none ∧ Q I' L'
def rtI (Z : jZ) (Q : Int32 → jI → jL → Prop) : jRt := fun v Z' I' L' => Z = Z' ∧ ∃ r : Int32, v = some (.int r) ∧ Q r I' L'
def rtZ (Z : jZ) (Q : Int32 → jI → jL → Prop) : jRt := fun v Z' I' L' => Z = Z' ∧ ∃ r : Int32, v = some (.int r) ∧ (r = 0 ∨ r = 1) ∧ Q r I' L'
def rtL (Z : jZ) (Q : Int64 → jI → jL → Prop) : jRt := fun v Z' I' L' => Z = Z' ∧ ∃ r : Int64, v = some (.long r) ∧ Q r I' L'
def rtR (k : Nat) (Z : jZ) (Q : Option Nat → jI → jL → Prop) : jRt := fun v Z' I' L' => Z = Z' ∧ ∃ r : Option Nat, v = some (va_rf r) ∧ (∀ b, r = some b → jk Z b k) ∧ Q r I' L'
def xrtV (Z : jZ) (Q : jZ → jI → jL → Prop) : jRt := fun v Z' I' L' => jext Z Z' ∧ SH Z' ∧ v = none ∧ Q Z' I' L'
def xrtI (Z : jZ) (Q : Int32 → jZ → jI → jL → Prop) : jRt := fun v Z' I' L' => jext Z Z' ∧ SH Z' ∧ ∃ r : Int32, v = some (.int r) ∧ Q r Z' I' L'
def xrtZ (Z : jZ) (Q : Int32 → jZ → jI → jL → Prop) : jRt := fun v Z' I' L' => jext Z Z' ∧ SH Z' ∧ ∃ r : Int32, v = some (.int r) ∧ (r = 0 ∨ r = 1) ∧ Q r Z' I' L'
def xrtL (Z : jZ) (Q : Int64 → jZ → jI → jL → Prop) : jRt := fun v Z' I' L' => jext Z Z' ∧ SH Z' ∧ ∃ r : Int64, v = some (.long r) ∧ Q r Z' I' L'
section JMORE
variable {G : jG} {cc : ByteArray} {own : String} {Ts : List Cond} {nL : Nat} {ret : Option FieldType} {rm : Room} {Rt : jRt} {pc : Nat} {lv : List (Nat × Value)} {st : List Value} {Z : jZ} {I : jI} {L : jL} {k n : Nat}
/-- a reference put into a field that isn't final -/
theorem j_putr (E : jE G cc own Ts nL ret rm Rt) {i a : Nat} (c j : Nat) {C ref : String} {T : u_T} {N : Nat} {v : Nat} (hcl : vwCl[c]? = some (C, T, N)) (hN : N = jnum c) (hc : c < 13) (hj : j < N) (hin : ∀ w ∈ u_ws C T N, w ∈ Ts) (hty : ∀ k, k < N → parseFieldDescriptor (T k).2.2.1 = some (jty c k)) (hnm : ∀ a, a < N → ∀ b, b < N → a ≠ b → (T a).2.1 ≠ (T b).2.1) (ht : jref (jty c j) = true) (href : (T j).1 = ref) (hlk : Cond.fieldLink own i ref (T j).2.1 (T j).2.2.1 ∈ Ts) (hfin : (T j).2.2.2 = false) (hk : jk Z a c) (d : decode cc pc = .ok (.putfield i, 3)) (kk : jJ G nL (pc + 3) lv st (jpR Z a j (some v)) I L k n) : jJ G nL pc lv (.ref v :: .ref a :: st) Z I L k n := by
  intro H locs ls hl hP hD hS
  have hD0 := hD
  obtain ⟨q, hq⟩ := jw_get (X := gX G) (cy := gY G) (I := I) (L := L) hk.1
  have hq0 := hq
  rw [jf_obj hk.2 hc] at hq
  subst hN
  have hnf : narrow (jty c j) (.ref v) = .ref v ∧ fits (jty c j) (.ref v) = true := by
    generalize jty c j = t at ht
    cases t <;> first | exact ⟨rfl, rfl⟩ | cases ht
  refine va_put E.1.1 E.1.2.1 E.1.2.2.2.2 hin (jty c) hty hnm E.1.2.2.2.1 E.2.1 hP hD hS q hq hcl j hj (E.1.2.2.2.2 _ hlk) (by rw [href]; exact fun _ h => h) hfin (hty j hj) hnf.1 hnf.2 (by rw [jfs_len]; exact hj) d (fun H locs hP hD hS => ?_)
  rw [show (Value.ref v) = va_rf (some v) from rfl, jfs_setR hj ht] at hP hD
  have e := jw_set (X := gX G) (cy := gY G) (Z := Z) (Z' := jpR Z a j (some v)) (I := I) (I' := I) (L := L) (L' := L) (a := a) (q := q) (e := .inr (c, jfs c (I a) (L a) (va_up (Z.2.2.2 a) j (some v)))) hD0 hk.1 hq0 rfl (by rw [jf_obj (Z := jpR Z a j (some v)) hk.2 hc]; simp [jpR, va_up]) (fun b hb => jf_R_ne hb)
  rw [e] at hP hD
  exact kk H locs ls hl hP hD hS
/-- System.arraycopy of ints -/
theorem j_copyi (E : jE G cc own Ts nL ret rm Rt) {i a b : Nat} {sp dp m : Int32} (w1 : Cond.methodLink own i arraycopyName ∈ Ts) (w2 : Cond.native arraycopyName ∈ Ts) (w3 : Cond.static arraycopyName ∈ Ts) (w4 : Cond.initialized "java/lang/System" ∈ Ts) (hka : jk Z a 14) (hkb : jk Z b 14) (h1 : ¬ sp < 0) (h2 : ¬ dp < 0) (h3 : ¬ m < 0) (h4 : sp.toNatClampNeg + m.toNatClampNeg ≤ jlen Z a) (h5 : dp.toNatClampNeg + m.toNatClampNeg ≤ jlen Z b) (hf : 1 ≤ rm.frames) (hlo : (st.map fun v => v.category).sum + (nativeFrameWords "java/lang/System" "arraycopy" 5 + 11) ≤ rm.locals) (d : decode cc pc = .ok (.invokestatic i, 3)) (kk : jJ G nL (pc + 3) lv st Z (va_up I b (va_cpy (I a) (I b) sp.toNatClampNeg dp.toNatClampNeg m.toNatClampNeg)) L k n) : jJ G nL pc lv (.int m :: .int dp :: .ref b :: .int sp :: .ref a :: st) Z I L k n := by
  intro H locs ls hl hP hD hS
  have hD0 := hD
  have eR := E.2.2.2.2.2.2.1
  obtain ⟨qa, hqa⟩ := jw_get (X := gX G) (cy := gY G) (I := I) (L := L) hka.1
  obtain ⟨qb, hqb⟩ := jw_get (X := gX G) (cy := gY G) (I := I) (L := L) hkb.1
  have hq0 := hqb
  rw [jf_14 hka.2] at hqa
  rw [jf_14 hkb.2] at hqb
  refine va_copyi E.1.1 E.1.2.1 (by rw [E.1.2.2.1]; exact hl.1.symm) E.1.2.2.2.1 (E.1.2.2.2.2 _ w1) (E.1.2.2.2.2 _ w2) (E.1.2.2.2.2 _ w3) (E.1.2.2.2.2 _ w4) E.2.1 hP hD hS qa qb 1 1 hqa hqb rfl rfl rfl h1 h2 h3 h4 h5 (fun _ _ => rfl) (by rw [eR]; exact hf) (by rw [eR]; exact hlo) d (fun H locs hP hD hS => ?_)
  have e := jw_set (X := gX G) (cy := gY G) (Z := Z) (Z' := Z) (I := I) (I' := va_up I b (va_cpy (I a) (I b) sp.toNatClampNeg dp.toNatClampNeg m.toNatClampNeg)) (L := L) (L' := L) (a := b) (q := qb) hD0 hkb.1 hq0 rfl (by rw [jf_14 hkb.2]) (fun c hc => jf_I_ne hc)
  simp only [va_up_self] at e
  rw [e] at hP hD
  exact kk H locs ls hl hP hD hS
theorem j_aald19 (E : jE G cc own Ts nL ret rm Rt) {a : Nat} {i : Int32} (hk : jk Z a 19) (hi : vp_in i (jlen Z a)) (d : decode cc pc = .ok (.aaload, 1)) (kk : jJ G nL (pc + 1) lv (va_rf (jr Z a i.toNatClampNeg) :: st) Z I L k n) : jJ G nL pc lv (.int i :: .ref a :: st) Z I L k n := by
  intro H locs ls hl hP hD hS
  obtain ⟨q, hq⟩ := jw_get (X := gX G) (cy := gY G) (I := I) (L := L) hk.1
  rw [jf_19 hk.2] at hq
  have hlt : i.toNatClampNeg < jlen Z a := Nat.not_le.mp fun q => hi (Or.inr q)
  exact W.aald (v := va_rf (jr Z a i.toNatClampNeg)) (ty := .array .byte) E.1.1 E.1.2.1 (hP q _ hq) ((E.2.1.2 6 _ rfl).1 (jlen Z a) (fun j => va_rf (jr Z a j))) rfl (fun q => by cases q) (by show ¬ (i < 0 ∨ (arrV _ _ _).slots.size ≤ _); rw [arrV_size]; exact hi) (by show (arrV _ _ _).slots[_]? = _; rw [arrV_read _ _ hlt]) rfl rfl d (kk H locs ls hl hP hD hS)
end JMORE
def rtN (Z : jZ) (Q : jZ → jI → jL → Prop) : jRt := fun v Z' I' L' => jext Z Z' ∧ v = none ∧ Q Z' I' L'
