section
/-! ===== what the reference puts back: loads ===== -/
theorem br_L36 {B : Nat × Nat} {T : Nat} {Z0 : jZ} {I0 : jI} {Q : Int32 → jZ → jI → jL → Prop} (w0 : WD Z0 I0) (v0 : Nat) (v1 : Int32) (kv0 : jk Z0 v0 12) (uV : Nat) (hV : jr Z0 v0 12 = some uV) (v2 : Int32) (hv2 : v2 = I0 uV v1.toNatClampNeg) (hp : 0 ≤ v1.toInt ∧ v1.toInt ≤ 5)
    (hQ : ∀ (r : Int32) (Z' : jZ) (I' : jI) (L' : jL), WD Z' I' → BUD B Z' T → FR Ws_X12_bears Z0 I0 Z' I' → CP Z0 Z' → I' uV = I0 uV → Q r Z' I' L') :
    ∀ (n : Nat) (v3 v4 : Int32) (Z : jZ) (I : jI) (L : jL), WD Z I → BUD B Z T → FR Ws_X12_bears Z0 I0 Z I → CP Z0 Z → (∀ i, i ≠ v1.toNatClampNeg → I uV i = I0 uV i) → 1 ≤ (I v0 0).toInt → -1 ≤ v4.toInt → v4.toInt ≤ 50 → v4.toInt + 2 ≤ (n : Int) → f_X12_bears_L36 B Q n v0 v1 v2 v3 v4 Z I L := by
  have z0 : (0 : Int32).toInt = 0 := rfl
  have zm : (-1 : Int32).toInt = -1 := by decide
  obtain ⟨x, ex, kV0, lV⟩ := sh_f w0.1 kv0 (j := 12) (k := 14) (m := 6) rfl
  cases hV.symm.trans ex
  have r2 : 0 ≤ v2.toInt ∧ v2.toInt ≤ 50 := by
    have : 0 ≤ (I0 uV v1.toNatClampNeg).toInt ∧ (I0 uV v1.toNatClampNeg).toInt ≤ 50 := w0.arr 12 12 kv0 hV kV0 rfl rfl _
    rw [hv2]
    exact this
  intro n
  induction n with
  | zero => intro v3 v4 Z I L w bd q cp ho h0 h1 h2 h3; exfalso; omega
  | succ n ih =>
    intro v3 v4 Z I L w bd q cp ho h0 h1 h2 h3
    have k := (q.1 _ _ kv0).1
    have kV := (q.1 _ _ kV0).1
    have hVZ : jr Z v0 12 = some uV := (q.2.1 v0 12 12 kv0 (by decide) (by decide)).trans hV
    have nV : uV ≠ v0 := ks_ne kV k (by decide)
    have n1 := i_nat (x := v1) rfl hp.1
    have out : f_X12_bears_b70 B Q v0 v1 v2 v3 Z I L := by
      unfold f_X12_bears_b70
      intro b1 e1
      cases hVZ.symm.trans e1
      refine ⟨vi_of rfl (by omega) (by omega), fun I3 e3 => ?_⟩
      have w3 : WD Z I3 := by rw [e3]; exact WD_putA w 12 12 k hVZ kV rfl rfl (by decide) (by constructor <;> omega)
      have q3 : FR Ws_X12_bears Z0 I0 Z I3 := q.trans w0.1 w0.2.1 (by rw [e3]; exact FR_upA w.2.1 k hVZ kV rfl rfl (by decide))
      have eV : I3 uV = I0 uV := funext fun i => by
        by_cases hi : i = v1.toNatClampNeg
        · rw [e3, hi, jpI_at]; exact hv2
        · rw [e3, jpI_off hi]; exact ho i hi
      refine ⟨fun c4 => ?_, fun c4 => hQ _ Z I3 L w3 bd q3 cp eV⟩
      intro I5 e5
      have w5 : WD Z I5 := by rw [e5]; exact WD_putF w3 12 21 k (by decide) (by decide) ⟨by decide, by decide⟩
      have q5 : FR Ws_X12_bears Z0 I0 Z I5 := q3.trans w0.1 w0.2.1 (by rw [e5]; exact FR_putF k (by decide) (by decide))
      have eV5 : I5 uV = I0 uV := by rw [e5, jpI_ne nV]; exact eV
      have t5 : (I5 v0 21).toInt = 0 := by rw [e5, jpI_at]; rfl
      refine s_X12_tell w5 v0 _ k (by omega) (fun I8 L9 w8 f8 p8 => ?_)
      refine hQ _ Z I8 L9 w8 bd (q5.trans w0.1 w0.2.1 (f8.mono (by decide))) cp ?_
      rw [f8.2.2.2 v0 12 12 uV k hVZ (by rw [kV.2]; rfl) rfl (by decide)]
      exact eV5
    unfold f_X12_bears_L36
    refine ⟨fun _ => out, fun c => ⟨fun _ => out, fun c3 => ?_⟩⟩
    have c := (not_congr (i_lt (x := v4) (y := 0) rfl z0)).mp c
    intro b15 e15
    cases hVZ.symm.trans e15
    refine ⟨vi_of rfl (by omega) (by omega), fun I17 e17 => ?_⟩
    have w17 : WD Z I17 := by rw [e17]; exact WD_putA w 12 12 k hVZ kV rfl rfl (by decide) (by constructor <;> omega)
    have q17 : FR Ws_X12_bears Z0 I0 Z I17 := q.trans w0.1 w0.2.1 (by rw [e17]; exact FR_upA w.2.1 k hVZ kV rfl rfl (by decide))
    have o17 : ∀ i, i ≠ v1.toNatClampNeg → I17 uV i = I0 uV i := fun i hi => by rw [e17, jpI_off hi]; exact ho i hi
    have s17 : (I17 v0 0).toInt = (I v0 0).toInt := by rw [e17, jpI_ne (fun e => nV e.symm)]
    obtain ⟨b34, eb34, -⟩ := sh_f w17.1 k (j := 37) (k := 14) (m := 75) rfl
    obtain ⟨b35, eb35, -⟩ := sh_f w17.1 k (j := 38) (k := 14) (m := 75) rfl
    obtain ⟨b36, eb36, -⟩ := sh_f w17.1 k (j := 40) (k := 14) (m := 25000) rfl
    obtain ⟨b37, eb37, -⟩ := sh_f w17.1 k (j := 9) (k := 14) (m := 6) rfl
    obtain ⟨b38, eb38, -⟩ := sh_f w17.1 k (j := 44) (k := 14) (m := 24) rfl
    refine s_X12_findClimb w17 bd v0 v1 k b34 eb34 b35 eb35 b36 eb36 b37 eb37 b38 eb38 hp (by omega) (fun r38 Z33 I34 L35 w34 bd34 f34 c34 p34 => ?_)
    have q34 : FR Ws_X12_bears Z0 I0 Z33 I34 := q17.trans w0.1 w0.2.1 (f34.mono (by decide))
    have cp34 : CP Z0 Z33 := cp.trans q17.1 c34
    have o34 : ∀ i, i ≠ v1.toNatClampNeg → I34 uV i = I0 uV i := fun i hi => by rw [f34.2.2.2 v0 12 12 uV k hVZ (by rw [kV.2]; rfl) rfl (by decide)]; exact o17 i hi
    have s34 : (I34 v0 0).toInt = (I17 v0 0).toInt := by rw [f34.2.2.1 v0 12 0 k (by decide) (by decide)]
    have nx : ∀ x : Int32, x = v4 + (-1) → x.toInt = v4.toInt - 1 := fun x e => by rw [e]; exact (i_add rfl zm (by omega) (by omega)).trans (by omega)
    have go : ∀ y3 : Int32, f_X12_bears_b64 B (f_X12_bears_L36 B Q n) Q v0 v1 v2 y3 v4 Z33 I34 L35 := fun y3 x ex => ih y3 x Z33 I34 L35 w34 bd34 q34 cp34 o34 (by omega) (by have := nx x ex; omega) (by have := nx x ex; omega) (by have := nx x ex; omega)
    exact ⟨fun _ => go _, fun _ => go _⟩
theorem s21_X12_bears {B : Nat × Nat} {T : Nat} {Z : jZ} {I : jI} {L : jL} (w : WD Z I) (bd : BUD B Z T) (v0 : Nat) (v1 : Int32) (kv0 : jk Z v0 12) (uV : Nat) (hV : jr Z v0 12 = some uV) {Q : Int32 → jZ → jI → jL → Prop} (hQ : ∀ (r : Int32) (Z' : jZ) (I' : jI) (L' : jL), WD Z' I' → BUD B Z' T → FR Ws_X12_bears Z I Z' I' → CP Z Z' → I' uV = I uV → Q r Z' I' L') : f_X12_bears B v0 v1 Z I L Q := by
  obtain ⟨x, ex, kV, lV⟩ := sh_f w.1 kv0 (j := 12) (k := 14) (m := 6) rfl
  cases hV.symm.trans ex
  have nV : uV ≠ v0 := ks_ne kV kv0 (by decide)
  have z0 : (0 : Int32).toInt = 0 := rfl
  unfold f_X12_bears
  intro I1 e1
  have w1 : WD Z I1 := by rw [e1]; exact WD_putF w 12 22 kv0 (by decide) (by decide) trivial
  have f1 : FR Ws_X12_bears Z I Z I1 := by rw [e1]; exact FR_putF kv0 (by decide) (by decide)
  have o1 : I1 uV = I uV := by rw [e1]; exact jpI_ne nV
  refine s_X12_isOne w1 v0 v1 kv0 (fun r p => ⟨fun c => hQ _ Z I1 L w1 bd f1 CP.rf o1, fun c => ⟨fun c2 => ?_, fun c2 => hQ _ Z I1 L w1 bd f1 CP.rf o1⟩⟩)
  have c := (not_congr (i_eq rfl z0)).mp c
  have c2 := (not_congr (i_eq (x := I1 v0 0) (y := 0) rfl z0)).mp c2
  have t0 : 0 ≤ (I1 v0 0).toInt ∧ (I1 v0 0).toInt ≤ 24 := w1.fld 12 0 kv0 (by decide)
  intro b37 e37
  cases hV.symm.trans e37
  refine ⟨vi_of rfl (by omega) (by omega), fun x39 e39 => ?_⟩
  exact ⟨52, br_L36 w v0 v1 kv0 uV hV x39 (by rw [e39, o1]) (by omega) hQ 52 _ _ Z I1 L w1 bd f1 CP.rf (fun i _ => by rw [o1]) (by omega) (by decide) (by decide) (by decide)⟩
/-! ===== peace puts the feuds back ===== -/
theorem FEs_bk {F : Nat → Nat → Prop} {a b : Nat} {p q : Prop} (hs : ∀ f g, F f g → F g f) (h : F a b) (hq : q) : (∀ f g, FEs (FEs F a b p) a b q f g ↔ F f g) := fun f g => by
  by_cases c : (f = a ∧ g = b) ∨ (f = b ∧ g = a)
  · rw [FEs_1 c]
    rcases c with ⟨c1, c2⟩ | ⟨c1, c2⟩
    · rw [c1, c2]; exact ⟨fun _ => h, fun _ => hq⟩
    · rw [c1, c2]; exact ⟨fun _ => hs _ _ h, fun _ => hq⟩
  · rw [FEs_0 c, FEs_0 c]
theorem fe_inFeud {Z : jZ} {I : jI} {L : jL} (v0 u5 : Nat) (h5 : jr Z v0 5 = some u5) (F : Nat → Nat → Prop) (h : FEc (I u5) F) (v1 v2 : Int32) (a b : Nat) (ha : a < 8) (hb : b < 8) (e1 : v1.toInt = (a : Int)) (e2 : v2.toInt = (b : Int)) {Q : Int32 → jI → jL → Prop} (hQ : ∀ r : Int32, (r.toInt = 1 ∧ F a b) ∨ (r.toInt = 0 ∧ ¬ F a b) → Q r I L) : f_X8_inFeud v0 v1 v2 Z I L Q := by
  have z0 : (0 : Int32).toInt = 0 := rfl
  have z8 : (8 : Int32).toInt = 8 := rfl
  have n1 : v1.toNatClampNeg = a := by have := i_nat e1 (by omega); omega
  have ev : v2 = Int32.ofNat b := i_of e2 (by omega)
  unfold f_X8_inFeud
  refine ⟨fun c => absurd ((i_lt e1 z0).mp c) (by omega), fun _ => ⟨fun c => absurd ((i_le z8 e1).mp c) (by omega), fun _ => ?_⟩⟩
  intro b3 hb3; cases h5.symm.trans hb3
  obtain ⟨M, hM, eM, hg⟩ := h a ha
  have t : (((Int32.ofNat M >>> (Int32.ofNat b &&& 31)) &&& (1 : Int32)) = 0 ↔ ¬ M / 2 ^ b % 2 = 1) := fb_t ⟨M, hM⟩ ⟨b, hb⟩
  rw [n1, eM, ev]
  exact ⟨vi_of e1 (by omega) (by omega), fun c => hQ 0 (Or.inr ⟨rfl, fun q => t.mp c ((hg b hb).mpr q)⟩), fun c => hQ 1 (Or.inl ⟨rfl, (hg b hb).mp (Classical.byContradiction fun q => c (t.mpr q))⟩)⟩
set_option maxHeartbeats 2000000 in
theorem pe_L32 {B : Nat × Nat} {T : Nat} {Z0 : jZ} {I0 : jI} (w0 : WD Z0 I0) (v0 : Nat) (kv0 : jk Z0 v0 11) (uF u5 : Nat) (hF : jr Z0 v0 2 = some uF) (h5 : jr Z0 uF 5 = some u5) (F : Nat → Nat → Prop) (hs : ∀ f g, F f g → F g f) (v4 : Int32) (a : Nat) (ha : a < 8) (e4 : v4.toInt = (a : Int)) {K : Nat → Int32 → Int32 → Int32 → Int32 → jZ → jI → jL → Prop} {Q : Int32 → jZ → jI → jL → Prop}
    (hK : ∀ (v1 v2 v3 x : Int32) (Z : jZ) (I : jI) (L : jL), x.toInt = (a : Int) + 1 → WD Z I → BUD B Z T → FR Ws_X11_peace Z0 I0 Z I → CP Z0 Z → FEc (I u5) F → K v0 v1 v2 v3 x Z I L) :
    ∀ (n q : Nat) (v1 v2 v3 v5 : Int32) (Z : jZ) (I : jI) (L : jL), 9 ≤ n + q → a < q → q ≤ 8 → v5.toInt = (q : Int) → WD Z I → BUD B Z T → FR Ws_X11_peace Z0 I0 Z I → CP Z0 Z → FEc (I u5) F → f_X11_peace_L32 B K Q n v0 v1 v2 v3 v4 v5 Z I L := by
  have z0 : (0 : Int32).toInt = 0 := rfl
  have z1 : (1 : Int32).toInt = 1 := rfl
  have z8 : (8 : Int32).toInt = 8 := rfl
  have z3 : (3 : Int32).toInt = 3 := rfl
  obtain ⟨x, ex, kF0⟩ := sh_o w0.1 kv0 (j := 2) (k := 8) rfl
  cases hF.symm.trans ex
  obtain ⟨x, ex, k50, -⟩ := sh_f w0.1 kF0 (j := 5) (k := 14) (m := 8) rfl
  cases h5.symm.trans ex
  intro n
  induction n with
  | zero => intro q v1 v2 v3 v5 Z I L h1 h2 h3; omega
  | succ n ih =>
    intro q v1 v2 v3 v5 Z I L h1 h2 h3 e5 w bd f0 cp0 hf
    have kv := (f0.1 _ _ kv0).1
    have kF := (f0.1 _ _ kF0).1
    have k5 := (f0.1 _ _ k50).1
    have gF : jr Z v0 2 = some uF := (f0.2.1 v0 11 2 kv0 (by decide) (by decide)).trans hF
    have g5 : jr Z uF 5 = some u5 := (f0.2.1 uF 8 5 kF0 (by decide) (by decide)).trans h5
    unfold f_X11_peace_L32
    refine ⟨fun c => ?_, fun c => ?_⟩
    · intro x ex
      exact hK v1 v2 v3 x Z I L (by rw [ex]; exact i_add e4 z1 (by omega) (by omega)) w bd f0 cp0 hf
    have c := (not_congr (i_le z8 e5)).mp c
    have nx : ∀ x : Int32, x = v5 + 1 → x.toInt = ((q + 1 : Nat) : Int) := fun x ex => by rw [ex]; exact (i_add e5 z1 (by omega) (by omega)).trans (by omega)
    have tail : ∀ (Z' : jZ) (I' : jI) (L' : jL), WD Z' I' → BUD B Z' T → FR Ws_X11_peace Z0 I0 Z' I' → CP Z0 Z' → FEc (I' u5) F → f_X11_peace_b121 B K (f_X11_peace_L32 B K Q n) Q v0 v1 v2 v3 v4 v5 Z' I' L' := by
      intro Z' I' L' w' bd' f' cp' hf'
      have nxt : ∀ y1 y2 y3 : Int32, f_X11_peace_b175 B K (f_X11_peace_L32 B K Q n) Q v0 y1 y2 y3 v4 v5 Z' I' L' := fun y1 y2 y3 => by
        unfold f_X11_peace_b175
        intro x ex
        exact ih (q + 1) y1 y2 y3 x Z' I' L' (by omega) (by omega) (by omega) (nx x ex) w' bd' f' cp' hf'
      have put : f_X11_peace_b152 B K (f_X11_peace_L32 B K Q n) Q v0 v4 v5 Z' I' L' := by
        unfold f_X11_peace_b152
        exact fun x2 _ b3 _ x4 _ b5 _ x6 _ => nxt x2 x4 x6
      unfold f_X11_peace_b121
      intro b7 _ b8 _
      exact ⟨fun _ => nxt _ _ _, fun _ => ⟨fun _ => put, fun _ b11 _ => ⟨fun _ => nxt _ _ _, fun _ => put⟩⟩⟩
    intro b hb; cases gF.symm.trans hb
    refine fe_inFeud uF u5 g5 F hf v4 v5 a q ha (by omega) e4 e5 (fun r hr => ⟨fun c2 => ?_, fun c2 => ?_⟩)
    · have c2 := (not_congr (i_eq rfl z0)).mp c2
      have hF' : F a q := by
        rcases hr with ⟨_, h⟩ | ⟨h, _⟩
        · exact h
        · exact absurd h c2
      intro b10 eb10
      obtain ⟨x11, ex11, kb10, lb10⟩ := sh_f w.1 kv (j := 11) (k := 14) (m := 3) rfl
      cases eb10.symm.trans ex11
      intro b12 eb12
      obtain ⟨x13, ex13, kb12, lb12⟩ := sh_f w.1 kv (j := 12) (k := 14) (m := 3) rfl
      cases eb12.symm.trans ex13
      intro b14 eb14
      cases eb10.symm.trans eb14
      have t18 := i_nat (x := (0 : Int32)) z0 (by omega)
      have t20 := i_nat (x := (3 : Int32)) z3 (by omega)
      refine ⟨⟨(not_congr (i_lt z0 z0)).mpr (by omega), (not_congr (i_lt z0 z0)).mpr (by omega), (not_congr (i_lt z3 z0)).mpr (by omega), by omega, by omega⟩, ?_⟩
      intro I21 eI21
      have w21 : WD Z I21 := by rw [eI21]; exact WD_cpy w 11 12 kv eb12 kb12 rfl rfl (by decide) (fun _ _ _ => trivial)
      have f21 : FR [(11, 12)] Z I Z I21 := by rw [eI21]; exact FR_upA w.2.1 kv eb12 kb12 rfl rfl List.mem_cons_self
      have q21 : FR Ws_X11_peace Z0 I0 Z I21 := f0.trans w0.1 w0.2.1 (f21.mono (by decide))
      have h21 : FEc (I21 u5) F := by rw [f21.2.2.2 uF 8 5 u5 kF g5 (by rw [k5.2]; rfl) rfl (by decide)]; exact hf
      intro b hb; cases gF.symm.trans hb
      refine s_X8_mindsFeud w21 uF v4 v5 kF (fun r23 => ⟨fun _ => tail Z I21 _ w21 bd q21 cp0 h21, fun _ => ?_⟩)
      intro b hb; cases gF.symm.trans hb
      refine r_X8_quarrel w21 uF u5 kF g5 v4 v5 0 a q ha (by omega) e4 e5 (by omega) F h21 (fun I55 L56 w55 f55 h55 => ?_)
      have q55 : FR Ws_X11_peace Z0 I0 Z I55 := q21.trans w0.1 w0.2.1 (f55.mono (by decide))
      intro b hb; cases eb12.symm.trans hb
      refine s_X11_sumUp w55 bd v0 (-1 : Int32) b12 kv kb12 v0 11 12 kv eb12 (by decide) rfl (by omega) (by intro i v; trivial) (fun Z61 I59 L60 w59 bd61 f59 c61 => ?_)
      have q59 : FR Ws_X11_peace Z0 I0 Z61 I59 := q55.trans w0.1 w0.2.1 (f59.mono (by decide))
      have cp61 : CP Z0 Z61 := cp0.trans q55.1 c61
      have kF9 := (f59.1 _ _ kF).1
      have k59 := (f59.1 _ _ k5).1
      have g59 : jr Z61 uF 5 = some u5 := (f59.2.1 uF 8 5 kF (by decide) (by decide)).trans g5
      have gF9 : jr Z61 v0 2 = some uF := (f59.2.1 v0 11 2 kv (by decide) (by decide)).trans gF
      have h59 : FEc (I59 u5) (FEs F a q ((0 : Int32) ≠ 0)) := by rw [f59.2.2.2 uF 8 5 u5 kF g5 (by rw [k5.2]; rfl) rfl (by decide)]; exact h55
      intro b hb; cases gF9.symm.trans hb
      refine r_X8_quarrel w59 uF u5 kF9 g59 v4 v5 1 a q ha (by omega) e4 e5 (by omega) _ h59 (fun I76 L77 w76 f76 h76 => ?_)
      exact tail Z61 I76 L77 w76 bd61 (q59.trans w0.1 w0.2.1 (f76.mono (by decide))) cp61 (FEc_iff h76 (FEs_bk hs hF' (by decide)))
    · unfold f_X11_peace_b175
      intro x ex
      exact ih (q + 1) v1 v2 v3 x Z I L (by omega) (by omega) (by omega) (nx x ex) w bd f0 cp0 hf
theorem s21_X11_peace {B : Nat × Nat} {T : Nat} {Z : jZ} {I : jI} {L : jL} (w : WD Z I) (bd : BUD B Z T) (v0 : Nat) (kv0 : jk Z v0 11) (uF u5 : Nat) (hF : jr Z v0 2 = some uF) (h5 : jr Z uF 5 = some u5) (F : Nat → Nat → Prop) (hs : ∀ f g, F f g → F g f) (hf : FEc (I u5) F) {Q : Int32 → jZ → jI → jL → Prop} (hQ : ∀ (r : Int32) (Z' : jZ) (I' : jI) (L' : jL), WD Z' I' → BUD B Z' T → FR Ws_X11_peace Z I Z' I' → CP Z Z' → FEc (I' u5) F → Q r Z' I' L') : f_X11_peace B v0 Z I L Q := by
  have z0 : (0 : Int32).toInt = 0 := rfl
  have z1 : (1 : Int32).toInt = 1 := rfl
  have z8 : (8 : Int32).toInt = 8 := rfl
  obtain ⟨x, ex, kF⟩ := sh_o w.1 kv0 (j := 2) (k := 8) rfl
  cases hF.symm.trans ex
  obtain ⟨x, ex, k5, -⟩ := sh_f w.1 kF (j := 5) (k := 14) (m := 8) rfl
  cases h5.symm.trans ex
  obtain ⟨u11, h11, k11, l11⟩ := sh_f w.1 kv0 (j := 11) (k := 14) (m := 3) rfl
  have lp : ∀ (n q : Nat) (v1 v2 v3 v4 : Int32) (Z1 : jZ) (I1 : jI) (L1 : jL), 9 ≤ n + q → q ≤ 8 → v4.toInt = (q : Int) → WD Z1 I1 → BUD B Z1 T → FR Ws_X11_peace Z I Z1 I1 → CP Z Z1 → FEc (I1 u5) F → f_X11_peace_L19 B Q n v0 v1 v2 v3 v4 Z1 I1 L1 := by
    intro n
    induction n with
    | zero => intro q v1 v2 v3 v4 Z1 I1 L1 h1 h2; omega
    | succ n ih =>
      intro q v1 v2 v3 v4 Z1 I1 L1 h1 h2 e4 w1 bd1 f1 cp1 hf1
      have kv := (f1.1 _ _ kv0).1
      unfold f_X11_peace_L19
      refine ⟨fun c => ⟨fun _ => hQ _ Z1 I1 _ w1 bd1 f1 cp1 hf1, fun _ => ?_⟩, fun c => ?_⟩
      · refine s_X11_tellTwo w1 v0 _ _ kv (fun I2 L2 w2 f2 => ?_)
        have e5 : I2 u5 = I1 u5 := f2.2.2.2 uF 8 5 u5 (f1.1 _ _ kF).1 ((f1.2.1 uF 8 5 kF (by decide) (by decide)).trans h5) (by rw [(f1.1 _ _ k5).1.2]; rfl) rfl (by decide)
        exact hQ _ Z1 I2 L2 w2 bd1 (f1.trans w.1 w.2.1 (f2.mono (by decide))) cp1 (by rw [e5]; exact hf1)
      · have c := (not_congr (i_le z8 e4)).mp c
        intro x ex
        refine ⟨9, pe_L32 w v0 kv0 uF u5 hF h5 F hs v4 q (by omega) e4 (fun y1 y2 y3 x' Z2 I2 L2 ex' w2 bd2 f2 cp2 hf2 => ih (q + 1) y1 y2 y3 x' Z2 I2 L2 (by omega) (by omega) (by omega) w2 bd2 f2 cp2 hf2) 9 (q + 1) v1 v2 v3 x Z1 I1 L1 (by omega) (by omega) (by omega) (by rw [ex]; exact (i_add e4 z1 (by omega) (by omega)).trans (by omega)) w1 bd1 f1 cp1 hf1⟩
  unfold f_X11_peace
  intro b hb; cases h11.symm.trans hb
  refine s_X11_sumUp w bd v0 (-1 : Int32) u11 kv0 k11 v0 11 11 kv0 h11 (by decide) rfl (by omega) (by intro i v; trivial) (fun Z1 I1 L1 w1 bd1 f1 cp1 => ?_)
  exact ⟨9, lp 9 0 _ _ _ 0 Z1 I1 L1 (by omega) (by omega) rfl w1 bd1 (f1.mono (by decide)) cp1 (by rw [f1.2.2.2 uF 8 5 u5 kF h5 (by rw [k5.2]; rfl) rfl (by decide)]; exact hf)⟩
set_option maxHeartbeats 2000000 in
theorem pf_L38 {B : Nat × Nat} {T : Nat} {Z0 : jZ} {I0 : jI} (w0 : WD Z0 I0) (v0 : Nat) (kv0 : jk Z0 v0 12) (t6 : Nat) (h6 : jr Z0 v0 6 = some t6) (F : Nat → Nat → Prop) (hs : ∀ f g, F f g → F g f) (v5 : Int32) (a : Nat) (ha : a < 8) (e4 : v5.toInt = (a : Int)) {K : Nat → Int32 → Int32 → Int32 → Int32 → Int32 → jZ → jI → jL → Prop} {Q : Int32 → jZ → jI → jL → Prop}
    (hK : ∀ (v1 v2 v3 v4 x : Int32) (Z : jZ) (I : jI) (L : jL), x.toInt = (a : Int) + 1 → WD Z I → BUD B Z T → FR Ws_X12_peace Z0 I0 Z I → CP Z0 Z → FEm (I t6) F → K v0 v1 v2 v3 v4 x Z I L) :
    ∀ (n q : Nat) (v1 v2 v3 v4 v6 : Int32) (Z : jZ) (I : jI) (L : jL), 9 ≤ n + q → a < q → q ≤ 8 → v6.toInt = (q : Int) → WD Z I → BUD B Z T → FR Ws_X12_peace Z0 I0 Z I → CP Z0 Z → FEm (I t6) F → f_X12_peace_L38 B K Q n v0 v1 v2 v3 v4 v5 v6 Z I L := by
  have z0 : (0 : Int32).toInt = 0 := rfl
  have z1 : (1 : Int32).toInt = 1 := rfl
  have z8 : (8 : Int32).toInt = 8 := rfl
  obtain ⟨x, ex, k60, -⟩ := sh_f w0.1 kv0 (j := 6) (k := 16) (m := 64) rfl
  cases h6.symm.trans ex
  intro n
  induction n with
  | zero => intro q v1 v2 v3 v4 v6 Z I L h1 h2 h3; omega
  | succ n ih =>
    intro q v1 v2 v3 v4 v6 Z I L h1 h2 h3 e6 w bd f0 cp0 hf
    have kv := (f0.1 _ _ kv0).1
    have k6 := (f0.1 _ _ k60).1
    have g6 : jr Z v0 6 = some t6 := (f0.2.1 v0 12 6 kv0 (by decide) (by decide)).trans h6
    unfold f_X12_peace_L38
    refine ⟨fun c => ?_, fun c => ?_⟩
    · intro x ex
      exact hK v1 v2 v3 v4 x Z I L (by rw [ex]; exact i_add e4 z1 (by omega) (by omega)) w bd f0 cp0 hf
    have c := (not_congr (i_le z8 e6)).mp c
    have nx : ∀ x : Int32, x = v6 + 1 → x.toInt = ((q + 1 : Nat) : Int) := fun x ex => by rw [ex]; exact (i_add e6 z1 (by omega) (by omega)).trans (by omega)
    have nxt : ∀ (y2 y3 y4 : Int32) (Z' : jZ) (I' : jI) (L' : jL), WD Z' I' → BUD B Z' T → FR Ws_X12_peace Z0 I0 Z' I' → CP Z0 Z' → FEm (I' t6) F → f_X12_peace_b129 B K (f_X12_peace_L38 B K Q n) Q v0 v1 y2 y3 y4 v5 v6 Z' I' L' := fun y2 y3 y4 Z' I' L' w' bd' f' cp' hf' => by
      unfold f_X12_peace_b129
      intro x ex
      exact ih (q + 1) v1 y2 y3 y4 x Z' I' L' (by omega) (by omega) (by omega) (nx x ex) w' bd' f' cp' hf'
    have t12 : (((8 : Int32) * v5) + v6).toInt = ((8 * a + q : Nat) : Int) := (i_add (i_mul z8 e4 (by omega) (by omega)) e6 (by omega) (by omega)).trans (by omega)
    have n12 : (((8 : Int32) * v5) + v6).toNatClampNeg = 8 * a + q := by have := i_nat t12 (by omega); omega
    intro b hb; cases g6.symm.trans hb
    rw [n12]
    refine ⟨vi_of t12 (by omega) (by omega), fun c2 => ?_, fun c2 => nxt _ _ _ Z I L w bd f0 cp0 hf⟩
    have hF' : F a q := (hf a q ha (by omega)).mp c2
    refine r_X12_setFeud w v0 t6 kv g6 v5 v6 0 a q ha (by omega) e4 e6 (Or.inl rfl) F hf (fun I12 L13 w12 f12 h12 => ?_)
    have q12 : FR Ws_X12_peace Z0 I0 Z I12 := f0.trans w0.1 w0.2.1 (f12.mono (by decide))
    refine s_X12_findAll w12 bd v0 kv (fun Z17 I18 L19 w18 bd17 f18 c17 => ?_)
    have q18 : FR Ws_X12_peace Z0 I0 Z17 I18 := q12.trans w0.1 w0.2.1 (f18.mono (by decide))
    have cp17 : CP Z0 Z17 := cp0.trans q12.1 c17
    have kv7 := (f18.1 _ _ kv).1
    have g67 : jr Z17 v0 6 = some t6 := (f18.2.1 v0 12 6 kv (by decide) (by decide)).trans g6
    have h18 : FEm (I18 t6) (FEs F a q ((0 : Int32) ≠ 0)) := by rw [f18.2.2.2 v0 12 6 t6 kv g6 (by rw [k6.2]; rfl) rfl (by decide)]; exact h12
    refine r_X12_setFeud w18 v0 t6 kv7 g67 v5 v6 1 a q ha (by omega) e4 e6 (Or.inr rfl) _ h18 (fun I25 L26 w25 f25 h25 => ?_)
    have q25 : FR Ws_X12_peace Z0 I0 Z17 I25 := q18.trans w0.1 w0.2.1 (f25.mono (by decide))
    have hf25 : FEm (I25 t6) F := FEm_iff h25 (FEs_bk hs hF' (by decide))
    have put : f_X12_peace_b109 B K (f_X12_peace_L38 B K Q n) Q v0 v1 v5 v6 Z17 I25 L26 := by
      unfold f_X12_peace_b109
      exact fun x2 _ x3 _ x4 _ => nxt x2 x3 x4 Z17 I25 L26 w25 bd17 q25 cp17 hf25
    exact ⟨fun _ => nxt _ _ _ Z17 I25 L26 w25 bd17 q25 cp17 hf25, fun _ => ⟨fun _ => put, fun _ => ⟨fun _ => put, fun _ => nxt _ _ _ Z17 I25 L26 w25 bd17 q25 cp17 hf25⟩⟩⟩
theorem s21_X12_peace {B : Nat × Nat} {T : Nat} {Z : jZ} {I : jI} {L : jL} (w : WD Z I) (bd : BUD B Z T) (v0 : Nat) (kv0 : jk Z v0 12) (t6 : Nat) (h6 : jr Z v0 6 = some t6) (F : Nat → Nat → Prop) (hs : ∀ f g, F f g → F g f) (hf : FEm (I t6) F) {Q : Int32 → jZ → jI → jL → Prop} (hQ : ∀ (r : Int32) (Z' : jZ) (I' : jI) (L' : jL), WD Z' I' → BUD B Z' T → FR Ws_X12_peace Z I Z' I' → CP Z Z' → FEm (I' t6) F → Q r Z' I' L') : f_X12_peace B v0 Z I L Q := by
  have z0 : (0 : Int32).toInt = 0 := rfl
  have z1 : (1 : Int32).toInt = 1 := rfl
  have z8 : (8 : Int32).toInt = 8 := rfl
  obtain ⟨x, ex, k6, -⟩ := sh_f w.1 kv0 (j := 6) (k := 16) (m := 64) rfl
  cases h6.symm.trans ex
  have n6 : t6 ≠ v0 := ks_ne k6 kv0 (by decide)
  have lp : ∀ (n q : Nat) (v1 v2 v3 v4 v5 : Int32) (Z1 : jZ) (I1 : jI) (L1 : jL), 9 ≤ n + q → q ≤ 8 → v5.toInt = (q : Int) → WD Z1 I1 → BUD B Z1 T → FR Ws_X12_peace Z I Z1 I1 → CP Z Z1 → FEm (I1 t6) F → f_X12_peace_L25 B Q n v0 v1 v2 v3 v4 v5 Z1 I1 L1 := by
    intro n
    induction n with
    | zero => intro q v1 v2 v3 v4 v5 Z1 I1 L1 h1 h2; omega
    | succ n ih =>
      intro q v1 v2 v3 v4 v5 Z1 I1 L1 h1 h2 e4 w1 bd1 f1 cp1 hf1
      have kv := (f1.1 _ _ kv0).1
      have k61 := (f1.1 _ _ k6).1
      have g6 : jr Z1 v0 6 = some t6 := (f1.2.1 v0 12 6 kv0 (by decide) (by decide)).trans h6
      unfold f_X12_peace_L25
      refine ⟨fun c => ⟨fun _ => ?_, fun _ => hQ _ Z1 I1 _ w1 bd1 f1 cp1 hf1⟩, fun c => ?_⟩
      · intro I5 e5
        have w5 : WD Z1 I5 := by rw [e5]; exact WD_putF w1 12 21 kv (by decide) (by decide) ⟨by decide, by decide⟩
        have q5 : FR Ws_X12_peace Z I Z1 I5 := f1.trans w.1 w.2.1 (by rw [e5]; exact FR_putF kv (by decide) (by decide))
        have eV5 : I5 t6 = I1 t6 := by rw [e5, jpI_ne n6]
        have t5 : (I5 v0 21).toInt = 0 := by rw [e5, jpI_at]; rfl
        refine s_X12_tell w5 v0 _ kv (by omega) (fun I8 L9 w8 f8 p8 => ?_)
        refine s_X12_tell w8 v0 _ kv (by omega) (fun I9 L10 w9 f9 p9 => ?_)
        refine hQ _ Z1 I9 L10 w9 bd1 ((q5.trans w.1 w.2.1 (f8.mono (by decide))).trans w.1 w.2.1 (f9.mono (by decide))) cp1 ?_
        rw [f9.2.2.2 v0 12 6 t6 kv g6 (by rw [k61.2]; rfl) rfl (by decide), f8.2.2.2 v0 12 6 t6 kv g6 (by rw [k61.2]; rfl) rfl (by decide), eV5]
        exact hf1
      · have c := (not_congr (i_le z8 e4)).mp c
        intro x ex
        refine ⟨9, pf_L38 w v0 kv0 t6 h6 F hs v5 q (by omega) e4 (fun y1 y2 y3 y4 x' Z2 I2 L2 ex' w2 bd2 f2 cp2 hf2 => ih (q + 1) y1 y2 y3 y4 x' Z2 I2 L2 (by omega) (by omega) (by omega) w2 bd2 f2 cp2 hf2) 9 (q + 1) v1 v2 v3 v4 x Z1 I1 L1 (by omega) (by omega) (by omega) (by rw [ex]; exact (i_add e4 z1 (by omega) (by omega)).trans (by omega)) w1 bd1 f1 cp1 hf1⟩
  unfold f_X12_peace
  intro I1 e1
  have w1 : WD Z I1 := by rw [e1]; exact WD_putF w 12 22 kv0 (by decide) (by decide) trivial
  have f1 : FR Ws_X12_peace Z I Z I1 := by rw [e1]; exact FR_putF kv0 (by decide) (by decide)
  refine s_X12_findAll w1 bd v0 kv0 (fun Z2 I2 L2 w2 bd2 f2 c2 => ?_)
  intro x57 _
  exact ⟨9, lp 9 0 _ _ _ _ 0 Z2 I2 L2 (by omega) (by omega) rfl w2 bd2 (f1.trans w.1 w.2.1 (f2.mono (by decide))) c2 (by rw [f2.2.2.2 v0 12 6 t6 kv0 h6 (by rw [k6.2]; rfl) rfl (by decide), e1, jpI_ne n6]; exact hf)⟩
/-! ===== what both sides have the same, in bundles that are kept call by call ===== -/
/-- where asks are; those kept -/
def AK (Z : jZ) (I : jI) (uF v2 uS u62 uQ vQ : Nat) : Prop := jr Z uF 2 = some uQ ∧ jk Z uQ 14 ∧ jr Z v2 3 = some vQ ∧ jk Z vQ 14 ∧ KCa Z I uS u62 (I v2 0).toInt
/-- widows -/
def WI (Z : jZ) (I : jI) (uF v2 uW vW : Nat) : Prop := jr Z uF 3 = some uW ∧ jk Z uW 14 ∧ jr Z v2 4 = some vW ∧ jk Z vW 16 ∧ ARr (I v2 0).toInt (I uW) (I vW) ∧ ∀ s : Nat, (s : Int) < (I v2 0).toInt → I uW s = 0 ∨ I uW s = 1
/-- laws -/
def LB (Z : jZ) (I : jI) (uF v2 t30 t29 : Nat) : Prop := jr Z v2 30 = some t30 ∧ jr Z v2 29 = some t29 ∧ LWR Z I uF t30 t29
/-- feuds -/
def FB (Z : jZ) (I : jI) (uF v2 u5c t6 : Nat) : Prop := jr Z uF 5 = some u5c ∧ jk Z u5c 14 ∧ jr Z v2 6 = some t6 ∧ jk Z t6 16 ∧ ∃ F : Nat → Nat → Prop, (∀ f g, F f g → F g f) ∧ FEc (I u5c) F ∧ FEm (I t6) F
/-- pilgrims: knees, purse, leap, load; their routes -/
def PB (Z : jZ) (I : jI) (v1 uF v2 uA t9 t10 t11 t12 : Nat) : Prop := (jr Z v2 9 = some t9 ∧ jk Z t9 14 ∧ jr Z v2 10 = some t10 ∧ jk Z t10 14 ∧ jr Z v2 11 = some t11 ∧ jk Z t11 14 ∧ jr Z v2 12 = some t12 ∧ jk Z t12 14) ∧ PRr 0 Z I v1 uA t9 ∧ PRr 1 Z I v1 uA t10 ∧ PRr 2 Z I v1 uA t11 ∧ PRr 3 Z I v1 uA t12 ∧ RTI Z I v1 uF uA
def WAK : List (Nat × Nat) := [(12, 0), (2, 8), (2, 1), (12, 62)]
def WWI : List (Nat × Nat) := [(8, 3), (12, 4), (12, 0)]
def WLB : List (Nat × Nat) := [(3, 0), (3, 3), (3, 4), (12, 30), (19, 0), (19, 1)]
def WFB : List (Nat × Nat) := [(8, 5), (12, 6)]
def WPB : List (Nat × Nat) := [(11, 4), (5, 0), (5, 1), (5, 2), (5, 3), (6, 1), (6, 2), (6, 3), (12, 9), (12, 10), (12, 11), (12, 12)]
theorem AK_fr {W : List (Nat × Nat)} {Z Z' : jZ} {I I' : jI} {uF v2 uS u62 uQ vQ : Nat} (f : FR W Z I Z' I') (wo : WD Z I) (kF : jk Z uF 8) (k2 : jk Z v2 12) (kS : jk Z uS 17) (lS : jlen Z uS = 2) (h62 : jr Z v2 62 = some u62) (k62 : jk Z u62 14) (hW : ∀ p ∈ WAK, p ∉ W) (h : AK Z I uF v2 uS u62 uQ vQ) : AK Z' I' uF v2 uS u62 uQ vQ := by
  obtain ⟨h1, g1, h2, g2, c⟩ := h
  have e0 : I' v2 0 = I v2 0 := f.2.2.1 v2 12 0 k2 (by decide) (hW _ (by decide))
  exact ⟨(f.2.1 uF 8 2 kF (by decide) (by decide)).trans h1, (f.1 _ _ g1).1, (f.2.1 v2 12 3 k2 (by decide) (by decide)).trans h2, (f.1 _ _ g2).1, KCa_fr f wo.1 kS lS k2 h62 k62 (hW _ (by decide)) (hW _ (by decide)) (hW _ (by decide)) (congrArg Int32.toInt e0) c⟩
theorem WI_fr {W : List (Nat × Nat)} {Z Z' : jZ} {I I' : jI} {uF v2 uW vW : Nat} (f : FR W Z I Z' I') (kF : jk Z uF 8) (k2 : jk Z v2 12) (hW : ∀ p ∈ WWI, p ∉ W) (h : WI Z I uF v2 uW vW) : WI Z' I' uF v2 uW vW := by
  obtain ⟨h1, g1, h2, g2, a, c⟩ := h
  have e0 : I' v2 0 = I v2 0 := f.2.2.1 v2 12 0 k2 (by decide) (hW _ (by decide))
  have e1 : I' uW = I uW := f.2.2.2 uF 8 3 uW kF h1 (by rw [g1.2]; rfl) rfl (hW _ (by decide))
  refine ⟨(f.2.1 uF 8 3 kF (by decide) (by decide)).trans h1, (f.1 _ _ g1).1, (f.2.1 v2 12 4 k2 (by decide) (by decide)).trans h2, (f.1 _ _ g2).1, ARr_same e1 (f.2.2.2 v2 12 4 vW k2 h2 (by rw [g2.2]; rfl) rfl (hW _ (by decide))) (congrArg Int32.toInt e0) a, ?_⟩
  rw [e0, e1]
  exact c
theorem LB_fr {W : List (Nat × Nat)} {Z Z' : jZ} {I I' : jI} {uF v2 t30 t29 : Nat} (f : FR W Z I Z' I') (wo : WD Z I) (kF : jk Z uF 8) (k2 : jk Z v2 12) (hW : ∀ p ∈ WLB, p ∉ W) (h : LB Z I uF v2 t30 t29) : LB Z' I' uF v2 t30 t29 := by
  obtain ⟨h1, h2, c⟩ := h
  exact ⟨(f.2.1 v2 12 30 k2 (by decide) (by decide)).trans h1, (f.2.1 v2 12 29 k2 (by decide) (by decide)).trans h2, LWR_fr wo kF k2 h1 h2 f (hW _ (by decide)) (hW _ (by decide)) (hW _ (by decide)) (hW _ (by decide)) (hW _ (by decide)) (hW _ (by decide)) c⟩
theorem FB_fr {W : List (Nat × Nat)} {Z Z' : jZ} {I I' : jI} {uF v2 u5c t6 : Nat} (f : FR W Z I Z' I') (kF : jk Z uF 8) (k2 : jk Z v2 12) (hW : ∀ p ∈ WFB, p ∉ W) (h : FB Z I uF v2 u5c t6) : FB Z' I' uF v2 u5c t6 := by
  obtain ⟨h1, g1, h2, g2, F, a, b, c⟩ := h
  have e1 : I' u5c = I u5c := f.2.2.2 uF 8 5 u5c kF h1 (by rw [g1.2]; rfl) rfl (hW _ (by decide))
  have e2 : I' t6 = I t6 := f.2.2.2 v2 12 6 t6 k2 h2 (by rw [g2.2]; rfl) rfl (hW _ (by decide))
  exact ⟨(f.2.1 uF 8 5 kF (by decide) (by decide)).trans h1, (f.1 _ _ g1).1, (f.2.1 v2 12 6 k2 (by decide) (by decide)).trans h2, (f.1 _ _ g2).1, F, a, by rw [e1]; exact b, by rw [e2]; exact c⟩
theorem PB_fr {W : List (Nat × Nat)} {Z Z' : jZ} {I I' : jI} {v1 uF v2 uA t9 t10 t11 t12 : Nat} (f : FR W Z I Z' I') (k1 : jk Z v1 11) (kA : jk Z uA 18) (k2 : jk Z v2 12) (hW : ∀ p ∈ WPB, p ∉ W) (h : PB Z I v1 uF v2 uA t9 t10 t11 t12) : PB Z' I' v1 uF v2 uA t9 t10 t11 t12 := by
  obtain ⟨⟨h1, g1, h2, g2, h3, g3, h4, g4⟩, p0, p1, p2, p3, r⟩ := h
  have rf : ∀ (j b : Nat), jr Z v2 j = some b → j ≠ 23 → jr Z' v2 j = some b := fun j b e hj => (f.2.1 v2 12 j k2 (fun q => absurd q.1 (by decide)) (fun q => hj q.2)).trans e
  have ar : ∀ (j b : Nat), jr Z v2 j = some b → jk Z b 14 → jsr 12 j = false → (12, j) ∈ WPB → I' b = I b := fun j b e kb hs hw => f.2.2.2 v2 12 j b k2 e (by rw [kb.2]; rfl) hs (hW _ hw)
  exact ⟨⟨rf 9 _ h1 (by decide), (f.1 _ _ g1).1, rf 10 _ h2 (by decide), (f.1 _ _ g2).1, rf 11 _ h3 (by decide), (f.1 _ _ g3).1, rf 12 _ h4 (by decide), (f.1 _ _ g4).1⟩, PRr_fr f k1 kA (ar 9 _ h1 g1 rfl (by decide)) (hW _ (by decide)) (hW _ (by decide)) p0, PRr_fr f k1 kA (ar 10 _ h2 g2 rfl (by decide)) (hW _ (by decide)) (hW _ (by decide)) p1, PRr_fr f k1 kA (ar 11 _ h3 g3 rfl (by decide)) (hW _ (by decide)) (hW _ (by decide)) p2, PRr_fr f k1 kA (ar 12 _ h4 g4 rfl (by decide)) (hW _ (by decide)) (hW _ (by decide)) p3, RTI_fr f k1 kA (hW _ (by decide)) (hW _ (by decide)) (hW _ (by decide)) (hW _ (by decide)) (hW _ (by decide)) (hW _ (by decide)) (hW _ (by decide)) r⟩
/-- loads are put back: the rest stays -/
theorem PB_load {W : List (Nat × Nat)} {Z Z' : jZ} {I I' : jI} {v1 uF v2 uA t9 t10 t11 t12 : Nat} (f : FR W Z I Z' I') (k1 : jk Z v1 11) (kA : jk Z uA 18) (k2 : jk Z v2 12) (hW : ∀ p ∈ ([(11, 4), (5, 0), (5, 1), (5, 2), (5, 3), (6, 1), (6, 2), (6, 3), (12, 9), (12, 10), (12, 11)] : List (Nat × Nat)), p ∉ W) (e12 : I' t12 = I t12) (h : PB Z I v1 uF v2 uA t9 t10 t11 t12) : PB Z' I' v1 uF v2 uA t9 t10 t11 t12 := by
  obtain ⟨⟨h1, g1, h2, g2, h3, g3, h4, g4⟩, p0, p1, p2, p3, r⟩ := h
  have rf : ∀ (j b : Nat), jr Z v2 j = some b → j ≠ 23 → jr Z' v2 j = some b := fun j b e hj => (f.2.1 v2 12 j k2 (fun q => absurd q.1 (by decide)) (fun q => hj q.2)).trans e
  have ar : ∀ (j b : Nat), jr Z v2 j = some b → jk Z b 14 → jsr 12 j = false → (12, j) ∉ W → I' b = I b := fun j b e kb hs hw => f.2.2.2 v2 12 j b k2 e (by rw [kb.2]; rfl) hs hw
  exact ⟨⟨rf 9 _ h1 (by decide), (f.1 _ _ g1).1, rf 10 _ h2 (by decide), (f.1 _ _ g2).1, rf 11 _ h3 (by decide), (f.1 _ _ g3).1, rf 12 _ h4 (by decide), (f.1 _ _ g4).1⟩, PRr_fr f k1 kA (ar 9 _ h1 g1 rfl (hW _ (by decide))) (hW _ (by decide)) (hW _ (by decide)) p0, PRr_fr f k1 kA (ar 10 _ h2 g2 rfl (hW _ (by decide))) (hW _ (by decide)) (hW _ (by decide)) p1, PRr_fr f k1 kA (ar 11 _ h3 g3 rfl (hW _ (by decide))) (hW _ (by decide)) (hW _ (by decide)) p2, PRr_fr f k1 kA e12 (hW _ (by decide)) (hW _ (by decide)) p3, RTI_fr f k1 kA (hW _ (by decide)) (hW _ (by decide)) (hW _ (by decide)) (hW _ (by decide)) (hW _ (by decide)) (hW _ (by decide)) (hW _ (by decide)) r⟩
theorem AK_frp {Z Z' : jZ} {I I' : jI} {uF v2 uS u62 uQ vQ : Nat} (f : FRp Z I Z' I') (x : jext Z Z') (wo : WD Z I) (kF : jk Z uF 8) (k2 : jk Z v2 12) (kS : jk Z uS 17) (lS : jlen Z uS = 2) (k62 : jk Z u62 14) (h : AK Z I uF v2 uS u62 uQ vQ) : AK Z' I' uF v2 uS u62 uQ vQ := by
  obtain ⟨h1, g1, h2, g2, c⟩ := h
  have e0 : I' v2 0 = I v2 0 := f.2 v2 12 0 k2 (by decide)
  exact ⟨(f.1 uF 8 2 kF (by decide)).trans h1, (x _ _ g1).1, (f.1 v2 12 3 k2 (by decide)).trans h2, (x _ _ g2).1, KCa_frp (v2 := v2) f wo.1 kS lS k62 (congrArg Int32.toInt e0) c⟩
theorem WI_frp {Z Z' : jZ} {I I' : jI} {uF v2 uW vW : Nat} (f : FRp Z I Z' I') (x : jext Z Z') (kF : jk Z uF 8) (k2 : jk Z v2 12) (h : WI Z I uF v2 uW vW) : WI Z' I' uF v2 uW vW := by
  obtain ⟨h1, g1, h2, g2, a, c⟩ := h
  have e0 : I' v2 0 = I v2 0 := f.2 v2 12 0 k2 (by decide)
  have e1 : I' uW = I uW := funext fun i => f.2 uW 14 i g1 (by omega)
  refine ⟨(f.1 uF 8 3 kF (by decide)).trans h1, (x _ _ g1).1, (f.1 v2 12 4 k2 (by decide)).trans h2, (x _ _ g2).1, ARr_same e1 (funext fun i => f.2 vW 16 i g2 (by omega)) (congrArg Int32.toInt e0) a, ?_⟩
  rw [e0, e1]
  exact c
theorem FB_frp {Z Z' : jZ} {I I' : jI} {uF v2 u5c t6 : Nat} (f : FRp Z I Z' I') (x : jext Z Z') (kF : jk Z uF 8) (k2 : jk Z v2 12) (h : FB Z I uF v2 u5c t6) : FB Z' I' uF v2 u5c t6 := by
  obtain ⟨h1, g1, h2, g2, F, a, b, c⟩ := h
  have e1 : I' u5c = I u5c := funext fun i => f.2 u5c 14 i g1 (by omega)
  have e2 : I' t6 = I t6 := funext fun i => f.2 t6 16 i g2 (by omega)
  exact ⟨(f.1 uF 8 5 kF (by decide)).trans h1, (x _ _ g1).1, (f.1 v2 12 6 k2 (by decide)).trans h2, (x _ _ g2).1, F, a, by rw [e1]; exact b, by rw [e2]; exact c⟩
/-! ===== feud, on both sides ===== -/
def FEV (a b : Int32) : Prop := (0 ≤ a.toInt ∧ a.toInt ≤ 7) ∧ (0 ≤ b.toInt ∧ b.toInt ≤ 7) ∧ ¬ a.toInt = b.toInt
theorem s21_X11_feud {Z : jZ} {I : jI} {L : jL} (w : WD Z I) (v0 : Nat) (v1 v2 v3 : Int32) (kv0 : jk Z v0 11) (uF u5 : Nat) (hF : jr Z v0 2 = some uF) (h5 : jr Z uF 5 = some u5) (F : Nat → Nat → Prop) (hf : FEc (I u5) F) {Q : Int32 → jI → jL → Prop} (hQ : ∀ (r : Int32) (I' : jI) (L' : jL), WD Z I' → FR Ws_X11_feud Z I Z I' → ((FEV v1 v2 ∧ r.toInt = 1 ∧ FEc (I' u5) (FEs F v1.toInt.toNat v2.toInt.toNat (v3 ≠ 0))) ∨ (¬ FEV v1 v2 ∧ r.toInt = 0 ∧ FEc (I' u5) F)) → Q r I' L') : f_X11_feud v0 v1 v2 v3 Z I L Q := by
  have z0 : (0 : Int32).toInt = 0 := rfl
  obtain ⟨x, ex, kF⟩ := sh_o w.1 kv0 (j := 2) (k := 8) rfl
  cases hF.symm.trans ex
  have bad : ∀ L', ¬ FEV v1 v2 → Q (0 : Int32) I L' := fun L' h => hQ 0 I L' w FR.rf (Or.inr ⟨h, rfl, hf⟩)
  unfold f_X11_feud
  refine s_X11_isFamily w v1 (fun r1 hr1 => ⟨fun c => bad _ (fun h => ?_), fun c => ?_⟩)
  · have c := (i_eq rfl z0).mp c
    have := h.1
    omega
  have c := (not_congr (i_eq rfl z0)).mp c
  refine s_X11_isFamily w v2 (fun r2 hr2 => ⟨fun c2 => bad _ (fun h => ?_), fun c2 => ?_⟩)
  · have c2 := (i_eq rfl z0).mp c2
    have := h.2.1
    omega
  have c2 := (not_congr (i_eq rfl z0)).mp c2
  refine ⟨fun c3 => ?_, fun c3 => bad _ (fun h => h.2.2 ((i_eq rfl rfl).mp c3))⟩
  have c3 := (not_congr (i_eq (x := v1) (y := v2) rfl rfl)).mp c3
  intro b hb; cases hF.symm.trans hb
  refine r_X8_quarrel w uF u5 kF h5 v1 v2 v3 v1.toInt.toNat v2.toInt.toNat (by omega) (by omega) (by omega) (by omega) (by omega) F hf (fun I' L' w' f' h' => ?_)
  exact hQ 1 I' L' w' (f'.mono (by decide)) (Or.inl ⟨⟨by omega, by omega, c3⟩, rfl, h'⟩)
theorem s21_X12_feud {Z : jZ} {I : jI} {L : jL} (w : WD Z I) (v0 : Nat) (v1 v2 v3 : Int32) (kv0 : jk Z v0 12) (hv : v3 = 0 ∨ v3 = 1) (t6 : Nat) (h6 : jr Z v0 6 = some t6) (F : Nat → Nat → Prop) (hf : FEm (I t6) F) {Q : Int32 → jI → jL → Prop} (hQ : ∀ (r : Int32) (I' : jI) (L' : jL), WD Z I' → FR Ws_X12_feud Z I Z I' → ((FEV v1 v2 ∧ r.toInt = 1 ∧ FEm (I' t6) (FEs F v1.toInt.toNat v2.toInt.toNat (v3 ≠ 0))) ∨ (¬ FEV v1 v2 ∧ r.toInt = 0 ∧ FEm (I' t6) F)) → Q r I' L') : f_X12_feud v0 v1 v2 v3 Z I L Q := by
  have z0 : (0 : Int32).toInt = 0 := rfl
  obtain ⟨x, ex, k6, -⟩ := sh_f w.1 kv0 (j := 6) (k := 16) (m := 64) rfl
  cases h6.symm.trans ex
  have n6 : t6 ≠ v0 := ks_ne k6 kv0 (by decide)
  unfold f_X12_feud
  intro I1 e1
  have w1 : WD Z I1 := by rw [e1]; exact WD_putF w 12 22 kv0 (by decide) (by decide) trivial
  have f1 : FR Ws_X12_feud Z I Z I1 := by rw [e1]; exact FR_putF kv0 (by decide) (by decide)
  have hf1 : FEm (I1 t6) F := by rw [e1, jpI_ne n6]; exact hf
  have bad : ∀ L', ¬ FEV v1 v2 → Q (0 : Int32) I1 L' := fun L' h => hQ 0 I1 L' w1 f1 (Or.inr ⟨h, rfl, hf1⟩)
  refine s_X12_isFamily w1 v1 (fun r1 hr1 => ⟨fun c => bad _ (fun h => ?_), fun c => ?_⟩)
  · have c := (i_eq rfl z0).mp c
    have := h.1
    omega
  have c := (not_congr (i_eq rfl z0)).mp c
  refine s_X12_isFamily w1 v2 (fun r2 hr2 => ⟨fun c2 => bad _ (fun h => ?_), fun c2 => ?_⟩)
  · have c2 := (i_eq rfl z0).mp c2
    have := h.2.1
    omega
  have c2 := (not_congr (i_eq rfl z0)).mp c2
  refine ⟨fun c3 => ?_, fun c3 => bad _ (fun h => h.2.2 ((i_eq rfl rfl).mp c3))⟩
  have c3 := (not_congr (i_eq (x := v1) (y := v2) rfl rfl)).mp c3
  refine r_X12_setFeud w1 v0 t6 kv0 h6 v1 v2 v3 v1.toInt.toNat v2.toInt.toNat (by omega) (by omega) (by omega) (by omega) hv F hf1 (fun I' L' w' f' h' => ?_)
  exact hQ 1 I' L' w' (f1.trans w.1 w.2.1 (f'.mono (by decide))) (Or.inl ⟨⟨by omega, by omega, c3⟩, rfl, h'⟩)
/-- after both -/
theorem FB_feud {Z : jZ} {I0 I1 I2 : jI} {uF v2' u5c t6 : Nat} {a b v r1 r2 : Int32} {F : Nat → Nat → Prop} (hs : ∀ f g, F f g → F g f) (h1 : jr Z uF 5 = some u5c) (g1 : jk Z u5c 14) (h2 : jr Z v2' 6 = some t6) (g2 : jk Z t6 16) (kF : jk Z uF 8) (f2 : FR Ws_X12_feud Z I1 Z I2) (p1 : (FEV a b ∧ r1.toInt = 1 ∧ FEc (I1 u5c) (FEs F a.toInt.toNat b.toInt.toNat (v ≠ 0))) ∨ (¬ FEV a b ∧ r1.toInt = 0 ∧ FEc (I1 u5c) F)) (p2 : (FEV a b ∧ r2.toInt = 1 ∧ FEm (I2 t6) (FEs F a.toInt.toNat b.toInt.toNat (v ≠ 0))) ∨ (¬ FEV a b ∧ r2.toInt = 0 ∧ FEm (I2 t6) F)) : r1.toInt = r2.toInt ∧ FB Z I2 uF v2' u5c t6 := by
  have e : I2 u5c = I1 u5c := f2.2.2.2 uF 8 5 u5c kF h1 (by rw [g1.2]; rfl) rfl (by decide)
  rcases p1 with ⟨q, q1, q2⟩ | ⟨q, q1, q2⟩
  · rcases p2 with ⟨_, t1, t2⟩ | ⟨t, _⟩
    · exact ⟨by omega, h1, g1, h2, g2, _, FEs_sym hs, by rw [e]; exact q2, t2⟩
    · exact absurd q t
  · rcases p2 with ⟨t, _⟩ | ⟨_, t1, t2⟩
    · exact absurd t q
    · exact ⟨by omega, h1, g1, h2, g2, F, hs, by rw [e]; exact q2, t2⟩
/-- sheet: what is asked afterwards is one -/
theorem AK_sheet {I0 I1 I2 : jI} {uF v2 uQ vQ : Nat} {k n g h : Int32} (en : (I0 uF 9).toInt = (I0 v2 0).toInt) (e1 : I1 v2 0 = I0 v2 0) (e2 : I2 v2 0 = I1 v2 0) (eQ : I1 vQ = I0 vQ) (eU : I2 uQ = I1 uQ) (p1 : (shV k n → ∀ q : Nat, (q : Int) < (I0 uF 9).toInt → (I1 uQ q).toInt = shP k n g h q) ∧ (¬ shV k n → I1 uQ = I0 uQ)) (p2 : (shV k n → ∀ q : Nat, (q : Int) < (I1 v2 0).toInt → (I2 vQ q).toInt = shP k n g h q) ∧ (¬ shV k n → I2 vQ = I1 vQ)) (ha : ARr (I0 v2 0).toInt (I0 uQ) (I0 vQ)) : ARr (I2 v2 0).toInt (I2 uQ) (I2 vQ) := by
  intro s hs
  rw [e2, e1] at hs
  by_cases c : shV k n
  · refine (i_eq rfl rfl).mpr ?_
    rw [eU, p1.1 c s (by omega), p2.1 c s (by rw [e1]; exact hs)]
  · rw [eU, p1.2 c, p2.2 c, eQ]
    exact ha s hs
/-! ===== all of it at once ===== -/
theorem SAM_of {Z : jZ} {I : jI} {v1 v2 uF uR uX uY vR uQ vQ uW vW uP x0 x1 x2 u5 u53 u54 u5c t6 t9 t10 t11 t12 uA uV t29 t30 uS u62 : Nat} (w : WD Z I) (k1 : jk Z v1 11) (k2 : jk Z v2 12) (hR : jr Z uF 0 = some uR) (hX : jr Z uF 1 = some uX) (hvR : jr Z v2 1 = some vR) (hvX : jr Z v2 2 = some uY) (hA : jr Z v1 3 = some uA) (hV : jr Z v2 13 = some uV) (pcs : PCs Z v1 uF uP x0 x2) (pms : PMs Z v2 u5 u53 u54) (hm1 : jr Z uP 1 = some x1) (sz : (I uF 9).toInt = (I v2 0).toInt) (np : (I v1 4).toInt = (I v2 8).toInt) (aR : ARr (I v2 0).toInt (I uR) (I vR)) (aX : ARr (I v2 0).toInt (I uX) (I uY)) (ak : AK Z I uF v2 uS u62 uQ vQ) (aA : ARr (I v2 0).toInt (I uQ) (I vQ)) (wi : WI Z I uF v2 uW vW) (lb : LB Z I uF v2 t30 t29) (fb : FB Z I uF v2 u5c t6) (pb : PB Z I v1 uF v2 uA t9 t10 t11 t12) (p4 : PRr 4 Z I v1 uA uV) (pp : PP (I v2 0).toInt.toNat (I x0) (I u5)) (mai : MAI I x0 x1) (sh : (I v2 39).toInt = -1) : ∃ uFe uL0 uC0 uL1 uC1 p13 p14 q0 q1, SAM Z I v1 v2 uF uR uX uQ uW uP x0 x1 u5c uFe 0 uL0 uC0 uL1 uC1 uA p13 p14 vR uY vQ vW u5 t6 t9 t10 t11 t12 uV t29 t30 q0 q1 := by
  have kF := pcs.2.1
  obtain ⟨uFe, hFe, -⟩ := sh_f w.1 kF (j := 8) (k := 14) (m := 7) rfl
  obtain ⟨uL0, hL0, kL0⟩ := sh_o w.1 kF (j := 6) (k := 3) rfl
  obtain ⟨uL1, hL1, kL1⟩ := sh_o w.1 kF (j := 7) (k := 3) rfl
  obtain ⟨uC0, hC0, -⟩ := sh_f w.1 kL0 (j := 0) (k := 14) (m := 40) rfl
  obtain ⟨uC1, hC1, -⟩ := sh_f w.1 kL1 (j := 0) (k := 14) (m := 40) rfl
  obtain ⟨p13, h13, -⟩ := sh_f w.1 k1 (j := 13) (k := 14) (m := 21) rfl
  obtain ⟨p14, h14, -⟩ := sh_f w.1 k1 (j := 14) (k := 14) (m := 21) rfl
  obtain ⟨a1, a2, a3, a4, -⟩ := ak
  obtain ⟨b1, b2, b3, b4, b5, b6⟩ := wi
  obtain ⟨c1, c2, c3⟩ := lb
  obtain ⟨d1, d2, d3, d4, d5⟩ := fb
  obtain ⟨⟨e1, e2, e3, e4, e5, e6, e7, e8⟩, g0, g1, g2, g3, g4⟩ := pb
  obtain ⟨x, ex, k29, l29⟩ := sh_f w.1 k2 (j := 29) (k := 19) (m := 2) rfl
  cases c2.symm.trans ex
  obtain ⟨q0, hq0, -⟩ := w.1.2.2.2 t29 k29 0 (by rw [l29]; decide)
  obtain ⟨q1, hq1, -⟩ := w.1.2.2.2 t29 k29 1 (by rw [l29]; decide)
  exact ⟨uFe, uL0, uC0, uL1, uC1, p13, p14, q0, q1, w, k1, k2, pcs.1, ⟨kF, hR, hX, a1, b1, pcs.2.2.1, hm1, d1, hFe⟩, pcs.2.2.2.2.1, hL0, hC0, hL1, hC1, hA, h13, h14, ⟨k2, hvR, hvX, a3, b3, d3, c2, c1⟩, pms.1, e1, e3, e5, e7, hV, hq0, hq1, sz, np, aR, aX, aA, b5, b6, pp, mai, d5, c3, g0, g1, g2, g3, p4, g4, sh⟩
/-- the pairs' frame -/
def Wmm : List (Nat × Nat) := Wmk ++ Ws_X12_market
theorem FR_mm {W W' : List (Nat × Nat)} {Z Z1 Z2 : jZ} {I I1 I2 : jI} (w : WD Z I) (h1 : ∀ p ∈ W, p ∈ Wmm) (h2 : ∀ p ∈ W', p ∈ Wmm) (f1 : FR W Z I Z1 I1) (f2 : FR W' Z1 I1 Z2 I2) : FR Wmm Z I Z2 I2 := (f1.mono h1).trans w.1 w.2.1 (f2.mono h2)
/-! ===== a pilgrim is told: its routes; laws ===== -/
theorem RTI_pil {Z Z' : jZ} {I I' : jI} {v1 uF uA : Nat} {a1 a2 a3 a4 r1 : Int32} (h : RTI Z I v1 uF uA) (x : jext Z Z') (w' : WD Z' I') (f : FRp Z I Z' I') (n : NPp Z I Z' I' v1 a1 a2 a3 a4 r1) (p : PSp v1 a1 a2 a3 a4 r1 I I') (rt : (Z' = Z ∧ I' = I) ∨ RTp Z' I' uF uA (I v1 4).toNatClampNeg a1 a2 a3) (hA : jr Z v1 3 = some uA) : RTI Z' I' v1 uF uA := by
  rcases n with ⟨hr, rfl, rfl⟩ | ⟨hr, hn⟩
  · exact h
  · obtain ⟨-, hoff, q, hq, kq, pq⟩ := hn uA hA
    have t : (I' v1 4).toInt = (I v1 4).toInt + 1 := by
      rcases p with ⟨h1, -⟩ | ⟨-, h2, -⟩
      · exact absurd h1 hr
      · exact h2
    rcases rt with ⟨-, e⟩ | ⟨q', r, b1, b2, b3, b4, b5, b6⟩
    · rw [e] at t
      omega
    · cases hq.symm.trans b1
      obtain ⟨y, ey, kr⟩ := sh_o w'.1 kq (j := 8) (k := 6) rfl
      cases b2.symm.trans ey
      intro i hi
      rw [t] at hi
      by_cases hin : i = (I v1 4).toNatClampNeg
      · exact ⟨q, r, by rw [hin]; exact hq, kq, b2, kr, b3, b4.trans pq.1.symm, b5.trans pq.2.1.symm, b6.trans pq.2.2.1.symm⟩
      · have hi0 : (i : Int) < (I v1 4).toInt := by
          have h0 : 0 ≤ (I v1 4).toInt ∨ (I v1 4).toInt < 0 := by omega
          rcases h0 with h0 | h0
          · have := i_nat (x := I v1 4) rfl h0
            omega
          · omega
        obtain ⟨q0, r0, c1, k0, c2, kr0, c3, c4, c5, c6⟩ := h i hi0
        refine ⟨q0, r0, (hoff i hin).trans c1, (x _ _ k0).1, (f.1 q0 5 8 k0 (by decide)).trans c2, (x _ _ kr0).1, (f.1 r0 6 0 kr0 (by decide)).trans c3, ?_, ?_, ?_⟩
        · rw [f.2 r0 6 1 kr0 (by omega), f.2 q0 5 0 k0 (by omega)]; exact c4
        · rw [f.2 r0 6 2 kr0 (by omega), f.2 q0 5 1 k0 (by omega)]; exact c5
        · rw [f.2 r0 6 3 kr0 (by omega), f.2 q0 5 2 k0 (by omega)]; exact c6
theorem LWR_frp {Z Z' : jZ} {I I' : jI} {uF v2 t30 t29 : Nat} (w : WD Z I) (kF : jk Z uF 8) (k2 : jk Z v2 12) (h30 : jr Z v2 30 = some t30) (h29 : jr Z v2 29 = some t29) (f : FRp Z I Z' I') (h : LWR Z I uF t30 t29) : LWR Z' I' uF t30 t29 := by
  intro i uL uC uX hi hL hC hX
  rw [f.1 uF 8 (6 + i) kF (by decide)] at hL
  have kL : jk Z uL 3 := by
    have hj : i = 0 ∨ i = 1 := by omega
    rcases hj with rfl | rfl
    · obtain ⟨y, ey, k⟩ := sh_o w.1 kF (j := 6) (k := 3) rfl
      cases hL.symm.trans ey
      exact k
    · obtain ⟨y, ey, k⟩ := sh_o w.1 kF (j := 7) (k := 3) rfl
      cases hL.symm.trans ey
      exact k
  rw [f.1 uL 3 0 kL (by decide)] at hC
  obtain ⟨y, ey, k29, -⟩ := sh_f w.1 k2 (j := 29) (k := 19) (m := 2) rfl
  cases h29.symm.trans ey
  obtain ⟨y, ey, k30, -⟩ := sh_f w.1 k2 (j := 30) (k := 14) (m := 2) rfl
  cases h30.symm.trans ey
  rw [f.1 t29 19 i k29 (by decide)] at hX
  obtain ⟨-, kC, -, kX⟩ := LW_kinds w kF k2 h29 hi hL hC hX
  obtain ⟨s, g1, g2, g3, g4, g5⟩ := h i uL uC uX hi hL hC hX
  have eX : I' uX = I uX := funext fun z => f.2 uX 13 z kX (by omega)
  exact ⟨s, by rw [f.2 t30 14 i k30 (by omega)]; exact g1, g2, g3, by rw [eX]; exact g4, by rw [eX]; exact LWc_eq g5 (f.2 uL 3 3 kL (by omega)) (f.2 uL 3 4 kL (by omega)) (funext fun z => f.2 uC 14 z kC (by omega))⟩
/-! ===== toll of the reference puts back what is asked ===== -/
set_option maxHeartbeats 4000000 in
set_option maxRecDepth 100000 in
theorem l21_X12_toll_L54 {B : Nat × Nat} {T : Nat} {Z0 : jZ} {I0 : jI} {Q : Int32 → jZ → jI → jL → Prop} (w0 : WD Z0 I0) (v0 : Nat) (v1 : Int32) (kv0 : jk Z0 v0 12) (uA : Nat) (huA : jr Z0 v0 3 = some uA) (v2 : Int32) (v3 : Int32) (hv2 : v2 = I0 uA v1.toNatClampNeg) (hQ : ∀ (r : Int32) (Z' : jZ) (I' : jI) (L' : jL), WD Z' I' → BUD B Z' T → FR Ws_X12_toll Z0 I0 Z' I' → CP Z0 Z' → I' uA = I0 uA → Q r Z' I' L') : ∀ (n : Nat) (v4 : Int32) (Z : jZ) (I : jI) (L : jL), WD Z I → BUD B Z T → FR Ws_X12_toll Z0 I0 Z I → CP Z0 Z →   ((0 ≤ v4.toInt ∧ v4.toInt ≤ 20 ∧ 0 ≤ v1.toInt ∧ v1.toInt ≤ 23 ∧ 0 ≤ v2.toInt ∧ v2.toInt ≤ 20 ∧ (I uA v1.toNatClampNeg).toInt = v4.toInt) ∧ (I v0 48).toInt = NUM B v0 Z I ∧ v3.toInt = NUM B v0 Z (jpI I uA v1.toNatClampNeg 0)) → (∀ q, q ≠ v1.toNatClampNeg → I uA q = I0 uA q) → v4.toInt < (n : Int) → f_X12_toll_L54 B  Q n v0 v1 v2 v3 v4 Z I L := by
  intro n
  induction n with
  | zero =>
    intro v4 Z I L w_I bd_Z q_I cp_Z   li hof me
    exfalso
    omega
  | succ n ih =>
    intro v4 Z I L w_I bd_Z q_I cp_Z   li hof me
    unfold f_X12_toll_L54
    have rv4 := i_rng v4
    have rv2 := i_rng v2
    have rv3 := i_rng v3
    have rv1 := i_rng v1
    obtain ⟨li0, li1, li2⟩ := li
    have kv0_0 := kv0
    have kv0 := (q_I.1 _ _ kv0).1
    have t1 : 0 ≤ (I v0 0).toInt ∧ (I v0 0).toInt ≤ 24 := w_I.fld 12 0 kv0 (by decide)
    have huA_1 : jr Z v0 3 = some uA := (q_I.2.1 v0 12 3 kv0_0 (by decide) (by decide)).trans huA
    have luA : jlen Z uA = 24 := by obtain ⟨b9, e9, -, l9⟩ := sh_f w_I.1 kv0 (j := 3) (k := 14) (m := 24) rfl; cases huA_1.symm.trans e9; exact l9
    have kuA : jk Z uA 14 := by obtain ⟨b9, e9, k9, -⟩ := sh_f w_I.1 kv0 (j := 3) (k := 14) (m := 24) rfl; cases huA_1.symm.trans e9; exact k9
    have xq_I := q_I.1
    refine ⟨fun c2 => ?_, fun c2 => ?_⟩
    · skip
      first | (have t3 : (I v0 48).toInt = v3.toInt := (i_eq rfl rfl).mp c2) | (have t3 : (I v0 48).toInt = v3.toInt := (i_eq rfl rfl).mp c2) | skip
      intro b4 eb4
      obtain rfl : uA = b4 := Option.some.inj (huA_1.symm.trans eb4)
      have o5 : vp_in v1 24 := vi_of rfl (by omega) (by omega)
      refine ⟨o5, ?_⟩
      intro I6 eI6
      have w_I6 : WD Z I6 := by rw [eI6]; exact WD_putA w_I 12 3 kv0 huA_1 kuA rfl rfl (by decide) (by constructor <;> omega)
      have ao_I6_uA : ∀ q, q ≠ v1.toNatClampNeg → I6 uA q = I uA q := fun q hq => by rw [eI6]; exact jpI_off hq
      first | (have u7 : (I6 uA (v1.toNatClampNeg)).toInt = v2.toInt := by (rw [eI6, show jpI I uA v1.toNatClampNeg v2 uA v1.toNatClampNeg = v2 from jpI_at] <;> exact rfl)) | skip
      have f_I6 : FR [(12, 3)] Z I Z I6 := by rw [eI6]; exact FR_upA w_I.2.1 kv0 huA_1 kuA rfl rfl List.mem_cons_self
      have q_I6 : FR Ws_X12_toll Z0 I0 Z I6 := q_I.trans w0.1 w0.2.1 (f_I6.mono (by decide))
      have u8 : (I6 v0 0).toInt = (I v0 0).toInt := by rw [f_I6.2.2.1 v0 12 0 kv0 (by decide) (by decide)]
      have u9 : (I6 v0 48).toInt = (I v0 48).toInt := by rw [f_I6.2.2.1 v0 12 48 kv0 (by decide) (by decide)]
      intro I10 eI10
      have t11 : (0 : Int32).toInt = 0 := rfl
      have w_I10 : WD Z I10 := by rw [eI10]; exact WD_putF w_I6 12 21 kv0 (by decide) (by decide) (by constructor <;> omega)
      have f_I10 : FR [(12, 21)] Z I6 Z I10 := by rw [eI10]; exact FR_putF kv0 (by decide) List.mem_cons_self
      have q_I10 : FR Ws_X12_toll Z0 I0 Z I10 := q_I6.trans w0.1 w0.2.1 (f_I10.mono (by decide))
      have ao_I10_uA : ∀ q, q ≠ v1.toNatClampNeg → I10 uA q = I uA q := fun q hq => by rw [f_I10.2.2.2 v0 12 3 uA kv0 huA_1 (by rw [kuA.2]; rfl) rfl (by decide)]; exact ao_I6_uA q hq
      have u12 : (I10 uA (v1.toNatClampNeg)).toInt = (I6 uA (v1.toNatClampNeg)).toInt := by rw [f_I10.2.2.2 v0 12 3 uA kv0 huA_1 (by rw [kuA.2]; rfl) rfl (by decide)]
      have u13 : (I10 v0 0).toInt = (I6 v0 0).toInt := by rw [f_I10.2.2.1 v0 12 0 kv0 (by decide) (by decide)]
      have u14 : (I10 v0 48).toInt = (I6 v0 48).toInt := by rw [f_I10.2.2.1 v0 12 48 kv0 (by decide) (by decide)]
      first | (have u15 : (I10 v0 21).toInt = (0) := by (rw [eI10, show jpI I6 v0 21 (0 : Int32) v0 21 = (0 : Int32) from jpI_at] <;> exact (show (0 : Int32).toInt = 0 from rfl))) | skip
      refine s_X12_tell w_I10 v0 (v3.toInt64) kv0  (by omega) (fun  I17 L18 w_I17 f_I17 p16 => ?_)
      have q_I17 : FR Ws_X12_toll Z0 I0 Z I17 := q_I10.trans w0.1 w0.2.1 (f_I17.mono (by decide))
      have ao_I17_uA : ∀ q, q ≠ v1.toNatClampNeg → I17 uA q = I uA q := fun q hq => by rw [f_I17.2.2.2 v0 12 3 uA kv0 huA_1 (by rw [kuA.2]; rfl) rfl (by decide)]; exact ao_I10_uA q hq
      have u19 : (I17 uA (v1.toNatClampNeg)).toInt = (I10 uA (v1.toNatClampNeg)).toInt := by rw [f_I17.2.2.2 v0 12 3 uA kv0 huA_1 (by rw [kuA.2]; rfl) rfl (by decide)]
      have u20 : (I17 v0 0).toInt = (I10 v0 0).toInt := by rw [f_I17.2.2.1 v0 12 0 kv0 (by decide) (by decide)]
      have u21 : (I17 v0 48).toInt = (I10 v0 48).toInt := by rw [f_I17.2.2.1 v0 12 48 kv0 (by decide) (by decide)]
      exact hQ v4 Z I17 L18 w_I17 bd_Z q_I17 cp_Z (funext fun q => by
        by_cases hq : q = v1.toNatClampNeg
        · rw [hq, ← hv2]; exact (i_eq rfl rfl).mpr ((u19).trans ((u12).trans (u7)))
        · exact (ao_I17_uA q hq).trans (hof q hq))
    · skip
      first | (have t22 : ¬ ((I v0 48).toInt = v3.toInt) := (not_congr (i_eq rfl rfl)).mp c2) | (have t22 : ¬ ((I v0 48).toInt = v3.toInt) := (not_congr (i_eq rfl rfl)).mp c2) | skip
      have hv4 : ¬ v4.toInt = 0 := fun h => by (have e9 : jpI I uA v1.toNatClampNeg 0 = I := jpI_id ((i_eq rfl (show (0 : Int32).toInt = 0 from rfl)).mpr (by omega)); rw [e9] at li2; omega)
      intro x23 ex23
      have rx23 := i_rng x23
      first | (have tx23 : x23.toInt = v4.toInt + (-1) := by (rw [ex23]; exact (i_add rfl (show (-1 : Int32).toInt = -1 from rfl) (by omega) (by omega)))) | skip
      intro b24 eb24
      obtain rfl : uA = b24 := Option.some.inj (huA_1.symm.trans eb24)
      have o25 : vp_in v1 24 := vi_of rfl (by omega) (by omega)
      refine ⟨o25, ?_⟩
      intro I26 eI26
      have w_I26 : WD Z I26 := by rw [eI26]; exact WD_putA w_I 12 3 kv0 huA_1 kuA rfl rfl (by decide) (by constructor <;> omega)
      have ao_I26_uA : ∀ q, q ≠ v1.toNatClampNeg → I26 uA q = I uA q := fun q hq => by rw [eI26]; exact jpI_off hq
      first | (have u27 : (I26 uA (v1.toNatClampNeg)).toInt = x23.toInt := by (rw [eI26, show jpI I uA v1.toNatClampNeg x23 uA v1.toNatClampNeg = x23 from jpI_at] <;> exact rfl)) | skip
      have f_I26 : FR [(12, 3)] Z I Z I26 := by rw [eI26]; exact FR_upA w_I.2.1 kv0 huA_1 kuA rfl rfl List.mem_cons_self
      have q_I26 : FR Ws_X12_toll Z0 I0 Z I26 := q_I.trans w0.1 w0.2.1 (f_I26.mono (by decide))
      have u28 : (I26 v0 0).toInt = (I v0 0).toInt := by rw [f_I26.2.2.1 v0 12 0 kv0 (by decide) (by decide)]
      have u29 : (I26 v0 48).toInt = (I v0 48).toInt := by rw [f_I26.2.2.1 v0 12 48 kv0 (by decide) (by decide)]
      have w9 := w_I26
      have ow9 : jpI I26 uA v1.toNatClampNeg 0 = jpI I uA v1.toNatClampNeg 0 := by rw [eI26]; exact jpI_ow
      obtain ⟨b30, eb30, kb30, lb30⟩ := sh_f w_I26.1 kv0 (j := 9) (k := 14) (m := 6) rfl
      obtain ⟨b31, eb31, kb31, lb31⟩ := sh_f w_I26.1 kv0 (j := 10) (k := 14) (m := 6) rfl
      obtain ⟨b32, eb32, kb32, lb32⟩ := sh_f w_I26.1 kv0 (j := 11) (k := 14) (m := 6) rfl
      obtain ⟨b33, eb33, kb33, lb33⟩ := sh_f w_I26.1 kv0 (j := 13) (k := 14) (m := 6) rfl
      refine s9_X12_findAll w_I26 bd_Z v0 kv0 b30 eb30 b31 eb31 b32 eb32 b33 eb33  (fun  Z37 I35 L36 w_I35 bd_Z37 f_I35 c_Z37 p34 => ?_)
      have q_I35 : FR Ws_X12_toll Z0 I0 Z37 I35 := q_I26.trans w0.1 w0.2.1 (f_I35.mono (by decide))
      have cp_Z37 : CP Z0 Z37 := cp_Z.trans q_I26.1 c_Z37
      have x_Z37 := f_I35.1
      have k38 := (f_I35.1 _ _ kv0).1
      have k39 := (f_I35.1 _ _ kuA).1
      have l40 := (f_I35.1 _ _ kuA).2.trans luA
      have k41 := (f_I35.1 _ _ kv0).1
      have e42 := (f_I35.2.1 v0 12 3 kv0 (by decide) (by decide)).trans huA_1
      have k43 := (f_I35.1 _ _ kb30).1
      have l44 := (f_I35.1 _ _ kb30).2.trans lb30
      have k45 := (f_I35.1 _ _ kv0).1
      have e46 := (f_I35.2.1 v0 12 9 kv0 (by decide) (by decide)).trans eb30
      have k47 := (f_I35.1 _ _ kb31).1
      have l48 := (f_I35.1 _ _ kb31).2.trans lb31
      have k49 := (f_I35.1 _ _ kv0).1
      have e50 := (f_I35.2.1 v0 12 10 kv0 (by decide) (by decide)).trans eb31
      have k51 := (f_I35.1 _ _ kb32).1
      have l52 := (f_I35.1 _ _ kb32).2.trans lb32
      have k53 := (f_I35.1 _ _ kv0).1
      have e54 := (f_I35.2.1 v0 12 11 kv0 (by decide) (by decide)).trans eb32
      have k55 := (f_I35.1 _ _ kb33).1
      have l56 := (f_I35.1 _ _ kb33).2.trans lb33
      have k57 := (f_I35.1 _ _ kv0).1
      have e58 := (f_I35.2.1 v0 12 13 kv0 (by decide) (by decide)).trans eb33
      have ao_I35_uA : ∀ q, q ≠ v1.toNatClampNeg → I35 uA q = I uA q := fun q hq => by rw [f_I35.2.2.2 v0 12 3 uA kv0 huA_1 (by rw [kuA.2]; rfl) rfl (by decide)]; exact ao_I26_uA q hq
      have u59 : (I35 uA (v1.toNatClampNeg)).toInt = (I26 uA (v1.toNatClampNeg)).toInt := by rw [f_I35.2.2.2 v0 12 3 uA kv0 huA_1 (by rw [kuA.2]; rfl) rfl (by decide)]
      have u60 : (I35 v0 0).toInt = (I26 v0 0).toInt := by rw [f_I35.2.2.1 v0 12 0 kv0 (by decide) (by decide)]
      exact ih x23 Z37 I35 L36 w_I35 bd_Z37 q_I35 cp_Z37   (by first | (have sm2 := SAME_FR w9 kv0 f_I35 (by decide); exact ⟨by omega, (p34).trans (NUM_same sm2), li2.trans ((congrArg (NUM B v0 _) ow9).symm.trans (NUM_same (sm2.put huA_1 v1.toNatClampNeg 0)))⟩) | (have sm2 := SAME_FR w8 k8 f_I35 (by decide); exact ⟨by omega, (p34).trans (NUM_same sm2), du2.trans ((congrArg (NUM B v0 _) ow8).symm.trans (NUM_same (sm2.put h8 v1.toNatClampNeg 0)))⟩)) (fun q hq => (ao_I35_uA q hq).trans (hof q hq))  (by omega)
set_option maxHeartbeats 4000000 in
set_option maxRecDepth 100000 in
theorem s21_X12_toll {B : Nat × Nat} {T : Nat} {Z : jZ} {I : jI} {L : jL} (w_I : WD Z I) (bd_Z : BUD B Z T) (v0 : Nat) (v1 : Int32) (kv0 : jk Z v0 12) (uA : Nat) (huA : jr Z v0 3 = some uA) {Q : Int32 → jZ → jI → jL → Prop} (hQ : ∀ (r : Int32) (Z' : jZ) (I' : jI) (L' : jL), WD Z' I' → BUD B Z' T → FR Ws_X12_toll Z I Z' I' → CP Z Z' → I' uA = I uA → Q r Z' I' L') : f_X12_toll B v0 v1 Z I L Q := by
  unfold f_X12_toll
  have q_I : FR Ws_X12_toll Z I Z I := FR.rf
  have cp_Z : CP Z Z := CP.rf
  have rv1 := i_rng v1
  have t61 : 0 ≤ (I v0 0).toInt ∧ (I v0 0).toInt ≤ 24 := w_I.fld 12 0 kv0 (by decide)
  have luA : jlen Z uA = 24 := by obtain ⟨b9, e9, -, l9⟩ := sh_f w_I.1 kv0 (j := 3) (k := 14) (m := 24) rfl; cases huA.symm.trans e9; exact l9
  have kuA : jk Z uA 14 := by obtain ⟨b9, e9, k9, -⟩ := sh_f w_I.1 kv0 (j := 3) (k := 14) (m := 24) rfl; cases huA.symm.trans e9; exact k9
  intro I62 eI62
  have t63 : (0 : Int32).toInt = 0 := rfl
  have w_I62 : WD Z I62 := by rw [eI62]; exact WD_putF w_I 12 22 kv0 (by decide) (by decide) trivial
  have f_I62 : FR [(12, 22)] Z I Z I62 := by rw [eI62]; exact FR_putF kv0 (by decide) List.mem_cons_self
  have q_I62 : FR Ws_X12_toll Z I Z I62 := q_I.trans w_I.1 w_I.2.1 (f_I62.mono (by decide))
  have ao_I62_uA : I62 uA = I uA := f_I62.2.2.2 v0 12 3 uA kv0 huA (by rw [kuA.2]; rfl) rfl (by decide)
  have u64 : (I62 v0 0).toInt = (I v0 0).toInt := by rw [f_I62.2.2.1 v0 12 0 kv0 (by decide) (by decide)]
  have u65 : (I62 v0 48).toInt = (I v0 48).toInt := by rw [f_I62.2.2.1 v0 12 48 kv0 (by decide) (by decide)]
  first | (have u66 : (I62 v0 22).toInt = (0) := by (rw [eI62, show jpI I v0 22 (0 : Int32) v0 22 = (0 : Int32) from jpI_at] <;> exact (show (0 : Int32).toInt = 0 from rfl))) | skip
  refine s_X12_isStep w_I62 v0 v1 kv0   (fun r67 p68 => ?_)
  have rr67 := i_rng r67
  refine ⟨fun c69 => ?_, fun c69 => ?_⟩
  · skip
    first | (have t70 : ¬ (r67.toInt = (0)) := (not_congr (i_eq rfl (show (0 : Int32).toInt = 0 from rfl))).mp c69) | (have t70 : ¬ (r67.toInt = (0 : Int32).toInt) := (not_congr (i_eq rfl rfl)).mp c69) | skip
    intro b71 eb71
    obtain rfl : uA = b71 := Option.some.inj (huA.symm.trans eb71)
    have o72 : vp_in v1 24 := vi_of rfl (by omega) (by omega)
    refine ⟨o72, ?_⟩
    have t73 : 0 ≤ (I62 uA v1.toNatClampNeg).toInt ∧ (I62 uA v1.toNatClampNeg).toInt ≤ 20 := w_I62.arr 12 3 kv0 huA kuA rfl rfl _
    intro x74 ex74
    have rx74 := i_rng x74
    first | (have tx74 : x74.toInt = (I62 uA v1.toNatClampNeg).toInt := by (rw [ex74]; exact rfl)) | (have tx74 : x74.toInt = (I62 uA v1.toNatClampNeg).toInt := by rw [ex74])
    intro b75 eb75
    obtain rfl : uA = b75 := Option.some.inj (huA.symm.trans eb75)
    have o76 : vp_in v1 24 := vi_of rfl (by omega) (by omega)
    refine ⟨o76, ?_⟩
    intro I77 eI77
    have t78 : (0 : Int32).toInt = 0 := rfl
    have w_I77 : WD Z I77 := by rw [eI77]; exact WD_putA w_I62 12 3 kv0 huA kuA rfl rfl (by decide) (by constructor <;> omega)
    have ao_I77_uA : ∀ q, q ≠ v1.toNatClampNeg → I77 uA q = I uA q := fun q hq => by rw [eI77, jpI_off hq, ao_I62_uA]
    first | (have u79 : (I77 uA (v1.toNatClampNeg)).toInt = (0) := by (rw [eI77, show jpI I62 uA v1.toNatClampNeg (0 : Int32) uA v1.toNatClampNeg = (0 : Int32) from jpI_at] <;> exact (show (0 : Int32).toInt = 0 from rfl))) | skip
    have f_I77 : FR [(12, 3)] Z I62 Z I77 := by rw [eI77]; exact FR_upA w_I62.2.1 kv0 huA kuA rfl rfl List.mem_cons_self
    have q_I77 : FR Ws_X12_toll Z I Z I77 := q_I62.trans w_I.1 w_I.2.1 (f_I77.mono (by decide))
    have u80 : (I77 v0 0).toInt = (I62 v0 0).toInt := by rw [f_I77.2.2.1 v0 12 0 kv0 (by decide) (by decide)]
    have u81 : (I77 v0 48).toInt = (I62 v0 48).toInt := by rw [f_I77.2.2.1 v0 12 48 kv0 (by decide) (by decide)]
    have u82 : (I77 v0 22).toInt = (I62 v0 22).toInt := by rw [f_I77.2.2.1 v0 12 22 kv0 (by decide) (by decide)]
    have w9 := w_I77
    have id9 : jpI I77 uA v1.toNatClampNeg 0 = I77 := by rw [eI77]; exact jpI_ow
    obtain ⟨b83, eb83, kb83, lb83⟩ := sh_f w_I77.1 kv0 (j := 9) (k := 14) (m := 6) rfl
    obtain ⟨b84, eb84, kb84, lb84⟩ := sh_f w_I77.1 kv0 (j := 10) (k := 14) (m := 6) rfl
    obtain ⟨b85, eb85, kb85, lb85⟩ := sh_f w_I77.1 kv0 (j := 11) (k := 14) (m := 6) rfl
    obtain ⟨b86, eb86, kb86, lb86⟩ := sh_f w_I77.1 kv0 (j := 13) (k := 14) (m := 6) rfl
    refine s9_X12_findAll w_I77 bd_Z v0 kv0 b83 eb83 b84 eb84 b85 eb85 b86 eb86  (fun  Z90 I88 L89 w_I88 bd_Z90 f_I88 c_Z90 p87 => ?_)
    have q_I88 : FR Ws_X12_toll Z I Z90 I88 := q_I77.trans w_I.1 w_I.2.1 (f_I88.mono (by decide))
    have cp_Z90 : CP Z Z90 := cp_Z.trans q_I77.1 c_Z90
    have x_Z90 := f_I88.1
    have k91 := (f_I88.1 _ _ kv0).1
    have k92 := (f_I88.1 _ _ kuA).1
    have l93 := (f_I88.1 _ _ kuA).2.trans luA
    have k94 := (f_I88.1 _ _ kv0).1
    have e95 := (f_I88.2.1 v0 12 3 kv0 (by decide) (by decide)).trans huA
    have k96 := (f_I88.1 _ _ kb83).1
    have l97 := (f_I88.1 _ _ kb83).2.trans lb83
    have k98 := (f_I88.1 _ _ kv0).1
    have e99 := (f_I88.2.1 v0 12 9 kv0 (by decide) (by decide)).trans eb83
    have k100 := (f_I88.1 _ _ kb84).1
    have l101 := (f_I88.1 _ _ kb84).2.trans lb84
    have k102 := (f_I88.1 _ _ kv0).1
    have e103 := (f_I88.2.1 v0 12 10 kv0 (by decide) (by decide)).trans eb84
    have k104 := (f_I88.1 _ _ kb85).1
    have l105 := (f_I88.1 _ _ kb85).2.trans lb85
    have k106 := (f_I88.1 _ _ kv0).1
    have e107 := (f_I88.2.1 v0 12 11 kv0 (by decide) (by decide)).trans eb85
    have k108 := (f_I88.1 _ _ kb86).1
    have l109 := (f_I88.1 _ _ kb86).2.trans lb86
    have k110 := (f_I88.1 _ _ kv0).1
    have e111 := (f_I88.2.1 v0 12 13 kv0 (by decide) (by decide)).trans eb86
    have ao_I88_uA : ∀ q, q ≠ v1.toNatClampNeg → I88 uA q = I uA q := fun q hq => by rw [f_I88.2.2.2 v0 12 3 uA kv0 huA (by rw [kuA.2]; rfl) rfl (by decide)]; exact ao_I77_uA q hq
    have u112 : (I88 uA (v1.toNatClampNeg)).toInt = (I77 uA (v1.toNatClampNeg)).toInt := by rw [f_I88.2.2.2 v0 12 3 uA kv0 huA (by rw [kuA.2]; rfl) rfl (by decide)]
    have u113 : (I88 v0 0).toInt = (I77 v0 0).toInt := by rw [f_I88.2.2.1 v0 12 0 kv0 (by decide) (by decide)]
    have u114 : (I88 v0 22).toInt = (I77 v0 22).toInt := by rw [f_I88.2.2.1 v0 12 22 kv0 (by decide) (by decide)]
    have sm1 := SAME_FR w9 kv0 f_I88 (by decide)
    have ph1 := p87
    have du1 : (I88 v0 48).toInt = NUM B v0 Z90 (jpI I88 uA v1.toNatClampNeg 0) := by rw [← NUM_same (B := B) (sm1.put huA v1.toNatClampNeg 0), id9]; exact ph1
    intro x115 ex115
    have rx115 := i_rng x115
    first | (have tx115 : x115.toInt = (I88 v0 48).toInt := by (rw [ex115]; exact rfl)) | (have tx115 : x115.toInt = (I88 v0 48).toInt := by rw [ex115])
    obtain ⟨J9, hJ9⟩ : ∃ J9 : jI, J9 = I88 := ⟨_, rfl⟩
    have du2 : x115.toInt = NUM B v0 Z90 (jpI J9 uA v1.toNatClampNeg 0) := by rw [hJ9, ← du1]; omega
    intro b116 eb116
    obtain rfl : uA = b116 := Option.some.inj (e95.symm.trans eb116)
    have o117 : vp_in v1 24 := vi_of rfl (by omega) (by omega)
    refine ⟨o117, ?_⟩
    intro I118 eI118
    have t119 : (20 : Int32).toInt = 20 := rfl
    have w_I118 : WD Z90 I118 := by rw [eI118]; exact WD_putA w_I88 12 3 k94 e95 k92 rfl rfl (by decide) (by constructor <;> omega)
    have ao_I118_uA : ∀ q, q ≠ v1.toNatClampNeg → I118 uA q = I uA q := fun q hq => by rw [eI118, jpI_off hq]; exact ao_I88_uA q hq
    first | (have u120 : (I118 uA (v1.toNatClampNeg)).toInt = (20) := by (rw [eI118, show jpI I88 uA v1.toNatClampNeg (20 : Int32) uA v1.toNatClampNeg = (20 : Int32) from jpI_at] <;> exact (show (20 : Int32).toInt = 20 from rfl))) | skip
    have f_I118 : FR [(12, 3)] Z90 I88 Z90 I118 := by rw [eI118]; exact FR_upA w_I88.2.1 k94 e95 k92 rfl rfl List.mem_cons_self
    have q_I118 : FR Ws_X12_toll Z I Z90 I118 := q_I88.trans w_I.1 w_I.2.1 (f_I118.mono (by decide))
    have u121 : (I118 v0 0).toInt = (I88 v0 0).toInt := by rw [f_I118.2.2.1 v0 12 0 k91 (by decide) (by decide)]
    have u122 : (I118 v0 22).toInt = (I88 v0 22).toInt := by rw [f_I118.2.2.1 v0 12 22 k91 (by decide) (by decide)]
    have u123 : (I118 v0 48).toInt = (I88 v0 48).toInt := by rw [f_I118.2.2.1 v0 12 48 k91 (by decide) (by decide)]
    have w8 := w_I118
    have k8 : jk Z90 v0 12 := (q_I118.1 _ _ kv0).1
    have h8 : jr Z90 v0 3 = some uA := (q_I118.2.1 v0 12 3 kv0 (by decide) (by decide)).trans huA
    have ow8 : jpI I118 uA v1.toNatClampNeg 0 = jpI J9 uA v1.toNatClampNeg 0 := by rw [eI118, hJ9]; exact jpI_ow
    refine s9_X12_findAll w_I118 bd_Z90 v0 k91 b83 e99 b84 e103 b85 e107 b86 e111  (fun  Z127 I125 L126 w_I125 bd_Z127 f_I125 c_Z127 p124 => ?_)
    have q_I125 : FR Ws_X12_toll Z I Z127 I125 := q_I118.trans w_I.1 w_I.2.1 (f_I125.mono (by decide))
    have cp_Z127 : CP Z Z127 := cp_Z90.trans q_I118.1 c_Z127
    have x_Z127 := f_I125.1
    have k128 := (f_I125.1 _ _ k91).1
    have k129 := (f_I125.1 _ _ k92).1
    have l130 := (f_I125.1 _ _ k92).2.trans l93
    have k131 := (f_I125.1 _ _ k94).1
    have e132 := (f_I125.2.1 v0 12 3 k94 (by decide) (by decide)).trans e95
    have k133 := (f_I125.1 _ _ k96).1
    have l134 := (f_I125.1 _ _ k96).2.trans l97
    have k135 := (f_I125.1 _ _ k98).1
    have e136 := (f_I125.2.1 v0 12 9 k98 (by decide) (by decide)).trans e99
    have k137 := (f_I125.1 _ _ k100).1
    have l138 := (f_I125.1 _ _ k100).2.trans l101
    have k139 := (f_I125.1 _ _ k102).1
    have e140 := (f_I125.2.1 v0 12 10 k102 (by decide) (by decide)).trans e103
    have k141 := (f_I125.1 _ _ k104).1
    have l142 := (f_I125.1 _ _ k104).2.trans l105
    have k143 := (f_I125.1 _ _ k106).1
    have e144 := (f_I125.2.1 v0 12 11 k106 (by decide) (by decide)).trans e107
    have k145 := (f_I125.1 _ _ k108).1
    have l146 := (f_I125.1 _ _ k108).2.trans l109
    have k147 := (f_I125.1 _ _ k110).1
    have e148 := (f_I125.2.1 v0 12 13 k110 (by decide) (by decide)).trans e111
    have ao_I125_uA : ∀ q, q ≠ v1.toNatClampNeg → I125 uA q = I uA q := fun q hq => by rw [f_I125.2.2.2 v0 12 3 uA k94 e95 (by rw [k92.2]; rfl) rfl (by decide)]; exact ao_I118_uA q hq
    have u149 : (I125 uA (v1.toNatClampNeg)).toInt = (I118 uA (v1.toNatClampNeg)).toInt := by rw [f_I125.2.2.2 v0 12 3 uA k94 e95 (by rw [k92.2]; rfl) rfl (by decide)]
    have u150 : (I125 v0 0).toInt = (I118 v0 0).toInt := by rw [f_I125.2.2.1 v0 12 0 k91 (by decide) (by decide)]
    have u151 : (I125 v0 22).toInt = (I118 v0 22).toInt := by rw [f_I125.2.2.1 v0 12 22 k91 (by decide) (by decide)]
    have t152 : (20 : Int32).toInt = 20 := rfl
    exact ⟨((20 : Int32).toInt).toNat + 1, l21_X12_toll_L54 w_I v0 v1 kv0 uA huA x74 x115 (by rw [ex74, ao_I62_uA])  hQ   _ (20 : Int32) Z127 I125 L126 w_I125 bd_Z127 q_I125 cp_Z127   (by first | (have sm2 := SAME_FR w9 kv0 f_I125 (by decide); exact ⟨by omega, (p124).trans (NUM_same sm2), li2.trans ((congrArg (NUM B v0 _) ow9).symm.trans (NUM_same (sm2.put huA_1 v1.toNatClampNeg 0)))⟩) | (have sm2 := SAME_FR w8 k8 f_I125 (by decide); exact ⟨by omega, (p124).trans (NUM_same sm2), du2.trans ((congrArg (NUM B v0 _) ow8).symm.trans (NUM_same (sm2.put h8 v1.toNatClampNeg 0)))⟩)) (fun q hq => ao_I125_uA q hq)  (by omega)⟩
  · skip
    first | (have t153 : r67.toInt = (0) := (i_eq rfl (show (0 : Int32).toInt = 0 from rfl)).mp c69) | (have t153 : r67.toInt = (0 : Int32).toInt := (i_eq rfl rfl).mp c69) | skip
    have t154 : (-1 : Int32).toInt = -1 := rfl
    exact hQ (-1 : Int32) Z I62 L w_I62 bd_Z q_I62 cp_Z ao_I62_uA
/-! ===== stairs: widows on both sides ===== -/
theorem WI_stairs {Z Z2 : jZ} {I0 I1 I2 : jI} {uB uT uM uF v2 uW vW : Nat} {r1 r2 : Int} {sB sM : Int} (k2 : jk Z v2 12) (kF : jk Z uF 8) (f2 : FR Ws_X12_stairs Z I1 Z2 I2) (h : WI Z I0 uF v2 uW vW) (er : r1 = r2) (ec : cT (I0 uB) sB = cT (I1 uM) sM) (eX : I2 uW = I1 uW) (eY : I1 vW = I0 vW) (en : (I0 uF 9).toInt = (I0 v2 0).toInt) (e1 : I1 v2 0 = I0 v2 0)
    (q1 : (0 ≤ r1 → CF (cT (I0 uB) sB) Z I1 uF r1) ∧ (r1 < 0 → ∀ j u, j < 4 → jr Z uF j = some u → I1 u = I0 u)) (q2 : (0 ≤ r2 → ∀ s : Nat, (s : Int) < r2 → (I2 vW s).toInt = cT (I1 uM) sM 3 s) ∧ (r2 < 0 → I2 vW = I1 vW)) (q3 : (0 ≤ r2 → (I2 v2 0).toInt = r2) ∧ (r2 < 0 → (I2 v2 0).toInt = (I1 v2 0).toInt)) : WI Z2 I2 uF v2 uW vW := by
  obtain ⟨h1, g1, h2, g2, a, c⟩ := h
  refine ⟨(f2.2.1 uF 8 3 kF (by decide) (by decide)).trans h1, (f2.1 _ _ g1).1, (f2.2.1 v2 12 4 k2 (by decide) (by decide)).trans h2, (f2.1 _ _ g2).1, st_stairs (Z2 := Z2) (uT := uT) (j := 3) (by decide) h1 er ec eX eY en e1 q1 q2 q3 a, fun s hs => ?_⟩
  subst er
  rw [eX]
  by_cases c0 : 0 ≤ r1
  · rw [q3.1 c0] at hs
    have e := q1.1 c0 3 uW (by decide) h1 s hs
    have z0 : (0 : Int32).toInt = 0 := rfl
    have z1 : (1 : Int32).toInt = 1 := rfl
    rcases (show cT (I0 uB) sB 3 s = 0 ∨ cT (I0 uB) sB 3 s = 1 from cS_w 77 0 0 s) with q | q
    · exact Or.inl ((i_eq (e.trans q) z0).mpr rfl)
    · exact Or.inr ((i_eq (e.trans q) z1).mpr rfl)
  · have c' : r1 < 0 := by omega
    rw [q3.2 c', e1] at hs
    rw [q1.2 c' 3 uW (by decide) h1]
    exact c s hs
set_option maxHeartbeats 4000000 in
set_option maxRecDepth 100000 in
theorem s21_X12_countTreading {B : Nat × Nat} {T : Nat} {Z : jZ} {I : jI} {L : jL} (w_I : WD Z I) (bd_Z : BUD B Z T) (v0 : Nat) (v1 : Int32) (v2 : Int32) (v3 : Int32) (kv0 : jk Z v0 12) (p0 : 0 ≤ v1.toInt ∧ v1.toInt ≤ 5 ∧ 0 ≤ v2.toInt ∧ v2.toInt ≤ 999 ∧ 0 ≤ v3.toInt ∧ v3.toInt ≤ 23) {Q : Int32 → jZ → jI → jL → Prop} (hQ : ∀ (r : Int32) (Z' : jZ) (I' : jI) (L' : jL), WD Z' I' → BUD B Z' T → FR Ws_X12_countTreading Z I Z' I' → CP Z Z' → ((I' v0 39).toInt = -1) → Q r Z' I' L') : f_X12_countTreading B v0 v1 v2 v3 Z I L Q := by
  unfold f_X12_countTreading
  have q_I : FR Ws_X12_countTreading Z I Z I := FR.rf
  have cp_Z : CP Z Z := CP.rf
  have rv1 := i_rng v1
  have rv2 := i_rng v2
  have rv3 := i_rng v3
  have t1 : -1 ≤ (I v0 39).toInt ∧ (I v0 39).toInt ≤ 23 := w_I.fld 12 39 kv0 (by decide)
  obtain ⟨b2, eb2, kb2, lb2⟩ := sh_f w_I.1 kv0 (j := 37) (k := 14) (m := 75) rfl
  obtain ⟨b3, eb3, kb3, lb3⟩ := sh_f w_I.1 kv0 (j := 38) (k := 14) (m := 75) rfl
  refine s_X12_countWays w_I bd_Z v0 v1 v2 kv0 b2 eb2 b3 eb3 (by omega) (fun r4 Z7 I5 L6 w_I5 bd_Z7 f_I5 c_Z7  => ?_)
  have q_I5 : FR Ws_X12_countTreading Z I Z7 I5 := q_I.trans w_I.1 w_I.2.1 (f_I5.mono (by decide))
  have cp_Z7 : CP Z Z7 := cp_Z.trans q_I.1 c_Z7
  have x_Z7 := f_I5.1
  have k8 := (f_I5.1 _ _ kv0).1
  have k9 := (f_I5.1 _ _ kb2).1
  have l10 := (f_I5.1 _ _ kb2).2.trans lb2
  have k11 := (f_I5.1 _ _ kv0).1
  have e12 := (f_I5.2.1 v0 12 37 kv0 (by decide) (by decide)).trans eb2
  have k13 := (f_I5.1 _ _ kb3).1
  have l14 := (f_I5.1 _ _ kb3).2.trans lb3
  have k15 := (f_I5.1 _ _ kv0).1
  have e16 := (f_I5.2.1 v0 12 38 kv0 (by decide) (by decide)).trans eb3
  have u17 : (I5 v0 39).toInt = (I v0 39).toInt := by rw [f_I5.2.2.1 v0 12 39 kv0 (by decide) (by decide)]
  have rr4 := i_rng r4
  intro I18 eI18
  have w_I18 : WD Z7 I18 := by rw [eI18]; exact WD_putF w_I5 12 39 k8 (by decide) (by decide) (by constructor <;> omega)
  have f_I18 : FR [(12, 39)] Z7 I5 Z7 I18 := by rw [eI18]; exact FR_putF k8 (by decide) List.mem_cons_self
  have q_I18 : FR Ws_X12_countTreading Z I Z7 I18 := q_I5.trans w_I.1 w_I.2.1 (f_I18.mono (by decide))
  first | (have u19 : (I18 v0 39).toInt = v3.toInt := by (rw [eI18, show jpI I5 v0 39 v3 v0 39 = v3 from jpI_at] <;> exact rfl)) | skip
  refine s_X12_countWays w_I18 bd_Z7 v0 v1 v2 k8 b2 e12 b3 e16 (by omega) (fun r20 Z23 I21 L22 w_I21 bd_Z23 f_I21 c_Z23  => ?_)
  have q_I21 : FR Ws_X12_countTreading Z I Z23 I21 := q_I18.trans w_I.1 w_I.2.1 (f_I21.mono (by decide))
  have cp_Z23 : CP Z Z23 := cp_Z7.trans q_I18.1 c_Z23
  have x_Z23 := f_I21.1
  have k24 := (f_I21.1 _ _ k8).1
  have k25 := (f_I21.1 _ _ k9).1
  have l26 := (f_I21.1 _ _ k9).2.trans l10
  have k27 := (f_I21.1 _ _ k11).1
  have e28 := (f_I21.2.1 v0 12 37 k11 (by decide) (by decide)).trans e12
  have k29 := (f_I21.1 _ _ k13).1
  have l30 := (f_I21.1 _ _ k13).2.trans l14
  have k31 := (f_I21.1 _ _ k15).1
  have e32 := (f_I21.2.1 v0 12 38 k15 (by decide) (by decide)).trans e16
  have u33 : (I21 v0 39).toInt = (I18 v0 39).toInt := by rw [f_I21.2.2.1 v0 12 39 k8 (by decide) (by decide)]
  have rr20 := i_rng r20
  intro I34 eI34
  have t35 : (-1 : Int32).toInt = -1 := rfl
  have w_I34 : WD Z23 I34 := by rw [eI34]; exact WD_putF w_I21 12 39 k24 (by decide) (by decide) (by constructor <;> omega)
  have f_I34 : FR [(12, 39)] Z23 I21 Z23 I34 := by rw [eI34]; exact FR_putF k24 (by decide) List.mem_cons_self
  have q_I34 : FR Ws_X12_countTreading Z I Z23 I34 := q_I21.trans w_I.1 w_I.2.1 (f_I34.mono (by decide))
  first | (have u36 : (I34 v0 39).toInt = (-1) := by (rw [eI34, show jpI I21 v0 39 (-1 : Int32) v0 39 = (-1 : Int32) from jpI_at] <;> exact (show (-1 : Int32).toInt = -1 from rfl))) | skip
  try (have t37 : (r4 - r20).toInt = (r4.toInt - r20.toInt) := (i_sub rfl rfl (by omega) (by omega)))
  exact hQ (r4 - r20) Z23 I34 L22 w_I34 bd_Z23 q_I34 cp_Z23 (by omega)
set_option maxHeartbeats 4000000 in
set_option maxRecDepth 100000 in
theorem s21_X12_trod {B : Nat × Nat} {T : Nat} {Z : jZ} {I : jI} {L : jL} (w_I : WD Z I) (bd_Z : BUD B Z T) (v0 : Nat) (v1 : Int32) (v2 : Int32) (v3 : Int32) (kv0 : jk Z v0 12) (p0 : (I v0 39).toInt = -1) {Q : Int32 → jZ → jI → jL → Prop} (hQ : ∀ (r : Int32) (Z' : jZ) (I' : jI) (L' : jL), WD Z' I' → BUD B Z' T → FR Ws_X12_trod Z I Z' I' → CP Z Z' → ((I' v0 39).toInt = -1) → Q r Z' I' L') : f_X12_trod B v0 v1 v2 v3 Z I L Q := by
  unfold f_X12_trod
  have q_I : FR Ws_X12_trod Z I Z I := FR.rf
  have cp_Z : CP Z Z := CP.rf
  have rv1 := i_rng v1
  have rv2 := i_rng v2
  have rv3 := i_rng v3
  have t1 : -1 ≤ (I v0 39).toInt ∧ (I v0 39).toInt ≤ 23 := w_I.fld 12 39 kv0 (by decide)
  intro I2 eI2
  have t3 : (0 : Int32).toInt = 0 := rfl
  have w_I2 : WD Z I2 := by rw [eI2]; exact WD_putF w_I 12 22 kv0 (by decide) (by decide) trivial
  have f_I2 : FR [(12, 22)] Z I Z I2 := by rw [eI2]; exact FR_putF kv0 (by decide) List.mem_cons_self
  have q_I2 : FR Ws_X12_trod Z I Z I2 := q_I.trans w_I.1 w_I.2.1 (f_I2.mono (by decide))
  have u4 : (I2 v0 39).toInt = (I v0 39).toInt := by rw [f_I2.2.2.1 v0 12 39 kv0 (by decide) (by decide)]
  first | (have u5 : (I2 v0 22).toInt = (0) := by (rw [eI2, show jpI I v0 22 (0 : Int32) v0 22 = (0 : Int32) from jpI_at] <;> exact (show (0 : Int32).toInt = 0 from rfl))) | skip
  refine s_X12_isOne w_I2 v0 v1 kv0   (fun r6 p7 => ?_)
  have rr6 := i_rng r6
  refine ⟨fun c8 => ?_, fun c8 => ?_⟩
  · skip
    first | (have t9 : r6.toInt = (0) := (i_eq rfl (show (0 : Int32).toInt = 0 from rfl)).mp c8) | (have t9 : r6.toInt = (0 : Int32).toInt := (i_eq rfl rfl).mp c8) | skip
    have t10 : (-1 : Int32).toInt = -1 := rfl
    exact hQ (-1 : Int32) Z I2 L w_I2 bd_Z q_I2 cp_Z (by omega)
  · skip
    first | (have t11 : ¬ (r6.toInt = (0)) := (not_congr (i_eq rfl (show (0 : Int32).toInt = 0 from rfl))).mp c8) | (have t11 : ¬ (r6.toInt = (0 : Int32).toInt) := (not_congr (i_eq rfl rfl)).mp c8) | skip
    refine s_X12_isCost w_I2 v2    (fun r12 p13 => ?_)
    have rr12 := i_rng r12
    refine ⟨fun c14 => ?_, fun c14 => ?_⟩
    · skip
      first | (have t15 : r12.toInt = (0) := (i_eq rfl (show (0 : Int32).toInt = 0 from rfl)).mp c14) | (have t15 : r12.toInt = (0 : Int32).toInt := (i_eq rfl rfl).mp c14) | skip
      have t16 : (-1 : Int32).toInt = -1 := rfl
      exact hQ (-1 : Int32) Z I2 L w_I2 bd_Z q_I2 cp_Z (by omega)
    · skip
      first | (have t17 : ¬ (r12.toInt = (0)) := (not_congr (i_eq rfl (show (0 : Int32).toInt = 0 from rfl))).mp c14) | (have t17 : ¬ (r12.toInt = (0 : Int32).toInt) := (not_congr (i_eq rfl rfl)).mp c14) | skip
      refine s_X12_isStep w_I2 v0 v3 kv0   (fun r18 p19 => ?_)
      have rr18 := i_rng r18
      refine ⟨fun c20 => ?_, fun c20 => ?_⟩
      · skip
        first | (have t21 : ¬ (r18.toInt = (0)) := (not_congr (i_eq rfl (show (0 : Int32).toInt = 0 from rfl))).mp c20) | (have t21 : ¬ (r18.toInt = (0 : Int32).toInt) := (not_congr (i_eq rfl rfl)).mp c20) | skip
        refine s21_X12_countTreading w_I2 bd_Z v0 v1 v2 v3 kv0  (by omega) (fun r22 Z26 I24 L25 w_I24 bd_Z26 f_I24 c_Z26 p23 => ?_)
        have q_I24 : FR Ws_X12_trod Z I Z26 I24 := q_I2.trans w_I.1 w_I.2.1 (f_I24.mono (by decide))
        have cp_Z26 : CP Z Z26 := cp_Z.trans q_I2.1 c_Z26
        have x_Z26 := f_I24.1
        have k27 := (f_I24.1 _ _ kv0).1
        have u28 : (I24 v0 22).toInt = (I2 v0 22).toInt := by rw [f_I24.2.2.1 v0 12 22 kv0 (by decide) (by decide)]
        first | (have u28s : (I24 v0 39).toInt = (I2 v0 39).toInt := by rw [f_I24.2.2.1 v0 12 39 kv0 (by decide) (by decide)]) | skip
        have rr22 := i_rng r22
        obtain ⟨b29, eb29, kb29, lb29⟩ := sh_f w_I24.1 k27 (j := 37) (k := 14) (m := 75) rfl
        obtain ⟨b30, eb30, kb30, lb30⟩ := sh_f w_I24.1 k27 (j := 38) (k := 14) (m := 75) rfl
        refine s_X12_countWays w_I24 bd_Z26 v0 v1 v2 k27 b29 eb29 b30 eb30 (by omega) (fun r31 Z34 I32 L33 w_I32 bd_Z34 f_I32 c_Z34  => ?_)
        have q_I32 : FR Ws_X12_trod Z I Z34 I32 := q_I24.trans w_I.1 w_I.2.1 (f_I32.mono (by decide))
        have cp_Z34 : CP Z Z34 := cp_Z26.trans q_I24.1 c_Z34
        have x_Z34 := f_I32.1
        have k35 := (f_I32.1 _ _ k27).1
        have k36 := (f_I32.1 _ _ kb29).1
        have l37 := (f_I32.1 _ _ kb29).2.trans lb29
        have k38 := (f_I32.1 _ _ k27).1
        have e39 := (f_I32.2.1 v0 12 37 k27 (by decide) (by decide)).trans eb29
        have k40 := (f_I32.1 _ _ kb30).1
        have l41 := (f_I32.1 _ _ kb30).2.trans lb30
        have k42 := (f_I32.1 _ _ k27).1
        have e43 := (f_I32.2.1 v0 12 38 k27 (by decide) (by decide)).trans eb30
        have u44 : (I32 v0 22).toInt = (I24 v0 22).toInt := by rw [f_I32.2.2.1 v0 12 22 k27 (by decide) (by decide)]
        first | (have u44s : (I32 v0 39).toInt = (I24 v0 39).toInt := by rw [f_I32.2.2.1 v0 12 39 k27 (by decide) (by decide)]) | skip
        have rr31 := i_rng r31
        refine ⟨fun c45 => ?_, fun c45 => ?_⟩
        · skip
          first | (have t46 : ¬ (r31.toInt = (0)) := (not_congr (i_eq rfl (show (0 : Int32).toInt = 0 from rfl))).mp c45) | (have t46 : ¬ (r31.toInt = (0 : Int32).toInt) := (not_congr (i_eq rfl rfl)).mp c45) | skip
          intro I47 eI47
          have t48 : (0 : Int32).toInt = 0 := rfl
          have w_I47 : WD Z34 I47 := by rw [eI47]; exact WD_putF w_I32 12 21 k35 (by decide) (by decide) (by constructor <;> omega)
          have f_I47 : FR [(12, 21)] Z34 I32 Z34 I47 := by rw [eI47]; exact FR_putF k35 (by decide) List.mem_cons_self
          have q_I47 : FR Ws_X12_trod Z I Z34 I47 := q_I32.trans w_I.1 w_I.2.1 (f_I47.mono (by decide))
          have u49 : (I47 v0 22).toInt = (I32 v0 22).toInt := by rw [f_I47.2.2.1 v0 12 22 k35 (by decide) (by decide)]
          first | (have u49s : (I47 v0 39).toInt = (I32 v0 39).toInt := by rw [f_I47.2.2.1 v0 12 39 k35 (by decide) (by decide)]) | skip
          first | (have u50 : (I47 v0 21).toInt = (0) := by (rw [eI47, show jpI I32 v0 21 (0 : Int32) v0 21 = (0 : Int32) from jpI_at] <;> exact (show (0 : Int32).toInt = 0 from rfl))) | skip
          refine s_X12_tellPart w_I47 v0 (r22.toInt64) (r31.toInt64) k35  (by exact l_of (by omega)) (by omega) (fun  I51 L52 w_I51 f_I51  => ?_)
          have q_I51 : FR Ws_X12_trod Z I Z34 I51 := q_I47.trans w_I.1 w_I.2.1 (f_I51.mono (by decide))
          have u53 : (I51 v0 22).toInt = (I47 v0 22).toInt := by rw [f_I51.2.2.1 v0 12 22 k35 (by decide) (by decide)]
          first | (have u53s : (I51 v0 39).toInt = (I47 v0 39).toInt := by rw [f_I51.2.2.1 v0 12 39 k35 (by decide) (by decide)]) | skip
          have t54 : (0 : Int32).toInt = 0 := rfl
          exact hQ (0 : Int32) Z34 I51 L52 w_I51 bd_Z34 q_I51 cp_Z34 (by omega)
        · skip
          first | (have t55 : r31.toInt = (0) := (i_eq rfl (show (0 : Int32).toInt = 0 from rfl)).mp c45) | (have t55 : r31.toInt = (0 : Int32).toInt := (i_eq rfl rfl).mp c45) | skip
          have t56 : (-2 : Int32).toInt = -2 := rfl
          exact hQ (-2 : Int32) Z34 I32 L33 w_I32 bd_Z34 q_I32 cp_Z34 (by omega)
      · skip
        first | (have t57 : r18.toInt = (0) := (i_eq rfl (show (0 : Int32).toInt = 0 from rfl)).mp c20) | (have t57 : r18.toInt = (0 : Int32).toInt := (i_eq rfl rfl).mp c20) | skip
        have t58 : (-1 : Int32).toInt = -1 := rfl
        exact hQ (-1 : Int32) Z I2 L w_I2 bd_Z q_I2 cp_Z (by omega)
set_option maxHeartbeats 4000000 in
set_option maxRecDepth 100000 in
theorem l21_X12_who_L27 {B : Nat × Nat} {T : Nat} {Z0 : jZ} {I0 : jI} {Q : Int32 → jZ → jI → jL → Prop} (w0 : WD Z0 I0) (v0 : Nat) (v1 : Int32) (v2 : Int32) (kv0 : jk Z0 v0 12) (p0 : (I0 v0 39).toInt = -1) (hQ : ∀ (r : Int32) (Z' : jZ) (I' : jI) (L' : jL), WD Z' I' → BUD B Z' T → FR Ws_X12_who Z0 I0 Z' I' → CP Z0 Z' → ((I' v0 39).toInt = -1) → Q r Z' I' L') : ∀ (n : Nat) (v3 : Int32) (v4 : Int32) (Z : jZ) (I : jI) (L : jL), WD Z I → BUD B Z T → FR Ws_X12_who Z0 I0 Z I → CP Z0 Z →   (0 ≤ v4.toInt ∧ v4.toInt ≤ 6 ∧ 0 ≤ v1.toInt ∧ v1.toInt ≤ 999 ∧ 0 ≤ v2.toInt ∧ v2.toInt ≤ 23 ∧ (I v0 39).toInt = -1) → 6 - v4.toInt < (n : Int) → f_X12_who_L27 B  Q n v0 v1 v2 v3 v4 Z I L := by
  intro n
  induction n with
  | zero =>
    intro v3 v4 Z I L w_I bd_Z q_I cp_Z   li  me
    exfalso
    omega
  | succ n ih =>
    intro v3 v4 Z I L w_I bd_Z q_I cp_Z   li  me
    unfold f_X12_who_L27
    have rv3 := i_rng v3
    have rv4 := i_rng v4
    have rv1 := i_rng v1
    have rv2 := i_rng v2
    have kv0_0 := kv0
    have kv0 := (q_I.1 _ _ kv0).1
    have t1 : -1 ≤ (I v0 39).toInt ∧ (I v0 39).toInt ≤ 23 := w_I.fld 12 39 kv0 (by decide)
    have xq_I := q_I.1
    have t3 : 0 ≤ (I v0 8).toInt ∧ (I v0 8).toInt ≤ 6 := w_I.fld 12 8 kv0 (by decide)
    refine ⟨fun c4 => ?_, fun c4 => ?_⟩
    · skip
      first | (have t5 : (I v0 8).toInt ≤ v4.toInt := (i_le rfl rfl).mp c4) | (have t5 : (I v0 8).toInt ≤ v4.toInt := (i_le rfl rfl).mp c4) | skip
      exact hQ v3 Z I L w_I bd_Z q_I cp_Z (by omega)
    · skip
      first | (have t6 : ¬ ((I v0 8).toInt ≤ v4.toInt) := (not_congr (i_le rfl rfl)).mp c4) | (have t6 : ¬ ((I v0 8).toInt ≤ v4.toInt) := (not_congr (i_le rfl rfl)).mp c4) | skip
      refine s21_X12_countTreading w_I bd_Z v0 v4 v1 v2 kv0  (by omega) (fun r7 Z11 I9 L10 w_I9 bd_Z11 f_I9 c_Z11 p8 => ?_)
      have q_I9 : FR Ws_X12_who Z0 I0 Z11 I9 := q_I.trans w0.1 w0.2.1 (f_I9.mono (by decide))
      have cp_Z11 : CP Z0 Z11 := cp_Z.trans q_I.1 c_Z11
      have x_Z11 := f_I9.1
      have k12 := (f_I9.1 _ _ kv0).1
      have u13 : (I9 v0 8).toInt = (I v0 8).toInt := by rw [f_I9.2.2.1 v0 12 8 kv0 (by decide) (by decide)]
      have rr7 := i_rng r7
      refine ⟨fun c14 => ?_, fun c14 => ?_⟩
      · skip
        first | (have t15 : r7.toInt ≤ (0) := (i_le rfl (show (0 : Int32).toInt = 0 from rfl)).mp c14) | (have t15 : r7.toInt ≤ (0 : Int32).toInt := (i_le rfl rfl).mp c14) | skip
        unfold f_X12_who_b56
        intro x16 ex16
        have rx16 := i_rng x16
        first | (have tx16 : x16.toInt = (v3 ||| (0 : Int32)).toInt := by (rw [ex16]; exact rfl)) | (have tx16 : x16.toInt = (v3 ||| (0 : Int32)).toInt := by rw [ex16])
        intro x17 ex17
        have rx17 := i_rng x17
        first | (have tx17 : x17.toInt = v4.toInt + (1) := by (rw [ex17]; exact (i_add rfl (show (1 : Int32).toInt = 1 from rfl) (by omega) (by omega)))) | skip
        exact ih x16 x17 Z11 I9 L10 w_I9 bd_Z11 q_I9 cp_Z11   (by omega)  (by omega)
      · skip
        first | (have t18 : ¬ (r7.toInt ≤ (0)) := (not_congr (i_le rfl (show (0 : Int32).toInt = 0 from rfl))).mp c14) | (have t18 : ¬ (r7.toInt ≤ (0 : Int32).toInt) := (not_congr (i_le rfl rfl)).mp c14) | skip
        unfold f_X12_who_b56
        intro x19 ex19
        have rx19 := i_rng x19
        first | (have tx19 : x19.toInt = (v3 ||| ((1 : Int32) <<< (v4 &&& 31))).toInt := by (rw [ex19]; exact rfl)) | (have tx19 : x19.toInt = (v3 ||| ((1 : Int32) <<< (v4 &&& 31))).toInt := by rw [ex19])
        intro x20 ex20
        have rx20 := i_rng x20
        first | (have tx20 : x20.toInt = v4.toInt + (1) := by (rw [ex20]; exact (i_add rfl (show (1 : Int32).toInt = 1 from rfl) (by omega) (by omega)))) | skip
        exact ih x19 x20 Z11 I9 L10 w_I9 bd_Z11 q_I9 cp_Z11   (by omega)  (by omega)
set_option maxHeartbeats 4000000 in
set_option maxRecDepth 100000 in
theorem s21_X12_who {B : Nat × Nat} {T : Nat} {Z : jZ} {I : jI} {L : jL} (w_I : WD Z I) (bd_Z : BUD B Z T) (v0 : Nat) (v1 : Int32) (v2 : Int32) (kv0 : jk Z v0 12) (p0 : (I v0 39).toInt = -1) {Q : Int32 → jZ → jI → jL → Prop} (hQ : ∀ (r : Int32) (Z' : jZ) (I' : jI) (L' : jL), WD Z' I' → BUD B Z' T → FR Ws_X12_who Z I Z' I' → CP Z Z' → ((I' v0 39).toInt = -1) → Q r Z' I' L') : f_X12_who B v0 v1 v2 Z I L Q := by
  unfold f_X12_who
  have q_I : FR Ws_X12_who Z I Z I := FR.rf
  have cp_Z : CP Z Z := CP.rf
  have rv1 := i_rng v1
  have rv2 := i_rng v2
  have t21 : -1 ≤ (I v0 39).toInt ∧ (I v0 39).toInt ≤ 23 := w_I.fld 12 39 kv0 (by decide)
  intro I22 eI22
  have t23 : (0 : Int32).toInt = 0 := rfl
  have w_I22 : WD Z I22 := by rw [eI22]; exact WD_putF w_I 12 22 kv0 (by decide) (by decide) trivial
  have f_I22 : FR [(12, 22)] Z I Z I22 := by rw [eI22]; exact FR_putF kv0 (by decide) List.mem_cons_self
  have q_I22 : FR Ws_X12_who Z I Z I22 := q_I.trans w_I.1 w_I.2.1 (f_I22.mono (by decide))
  have u24 : (I22 v0 39).toInt = (I v0 39).toInt := by rw [f_I22.2.2.1 v0 12 39 kv0 (by decide) (by decide)]
  first | (have u25 : (I22 v0 22).toInt = (0) := by (rw [eI22, show jpI I v0 22 (0 : Int32) v0 22 = (0 : Int32) from jpI_at] <;> exact (show (0 : Int32).toInt = 0 from rfl))) | skip
  refine s_X12_isCost w_I22 v1    (fun r26 p27 => ?_)
  have rr26 := i_rng r26
  refine ⟨fun c28 => ?_, fun c28 => ?_⟩
  · skip
    first | (have t29 : r26.toInt = (0) := (i_eq rfl (show (0 : Int32).toInt = 0 from rfl)).mp c28) | (have t29 : r26.toInt = (0 : Int32).toInt := (i_eq rfl rfl).mp c28) | skip
    have t30 : (-1 : Int32).toInt = -1 := rfl
    exact hQ (-1 : Int32) Z I22 L w_I22 bd_Z q_I22 cp_Z (by omega)
  · skip
    first | (have t31 : ¬ (r26.toInt = (0)) := (not_congr (i_eq rfl (show (0 : Int32).toInt = 0 from rfl))).mp c28) | (have t31 : ¬ (r26.toInt = (0 : Int32).toInt) := (not_congr (i_eq rfl rfl)).mp c28) | skip
    refine s_X12_isStep w_I22 v0 v2 kv0   (fun r32 p33 => ?_)
    have rr32 := i_rng r32
    refine ⟨fun c34 => ?_, fun c34 => ?_⟩
    · skip
      first | (have t35 : ¬ (r32.toInt = (0)) := (not_congr (i_eq rfl (show (0 : Int32).toInt = 0 from rfl))).mp c34) | (have t35 : ¬ (r32.toInt = (0 : Int32).toInt) := (not_congr (i_eq rfl rfl)).mp c34) | skip
      have t36 : (0 : Int32).toInt = 0 := rfl
      have t37 : (0 : Int32).toInt = 0 := rfl
      exact ⟨(6 - (0 : Int32).toInt).toNat + 1, l21_X12_who_L27 w_I v0 v1 v2 kv0 p0   hQ   _ (0 : Int32) (0 : Int32) Z I22 L w_I22 bd_Z q_I22 cp_Z   (by omega)  (by omega)⟩
    · skip
      first | (have t38 : r32.toInt = (0) := (i_eq rfl (show (0 : Int32).toInt = 0 from rfl)).mp c34) | (have t38 : r32.toInt = (0 : Int32).toInt := (i_eq rfl rfl).mp c34) | skip
      have t39 : (-1 : Int32).toInt = -1 := rfl
      exact hQ (-1 : Int32) Z I22 L w_I22 bd_Z q_I22 cp_Z (by omega)
set_option maxHeartbeats 4000000 in
set_option maxRecDepth 100000 in
theorem s21_X12_shut {B : Nat × Nat} {T : Nat} {Z : jZ} {I : jI} {L : jL} (w_I : WD Z I) (bd_Z : BUD B Z T) (v0 : Nat) (v1 : Int32) (kv0 : jk Z v0 12) (p0 : (I v0 39).toInt = -1) {Q : Int32 → jZ → jI → jL → Prop} (hQ : ∀ (r : Int32) (Z' : jZ) (I' : jI) (L' : jL), WD Z' I' → BUD B Z' T → FR Ws_X12_shut Z I Z' I' → CP Z Z' → ((I' v0 39).toInt = -1) → Q r Z' I' L') : f_X12_shut B v0 v1 Z I L Q := by
  unfold f_X12_shut
  have q_I : FR Ws_X12_shut Z I Z I := FR.rf
  have cp_Z : CP Z Z := CP.rf
  have rv1 := i_rng v1
  have t1 : -1 ≤ (I v0 39).toInt ∧ (I v0 39).toInt ≤ 23 := w_I.fld 12 39 kv0 (by decide)
  intro I2 eI2
  have t3 : (0 : Int32).toInt = 0 := rfl
  have w_I2 : WD Z I2 := by rw [eI2]; exact WD_putF w_I 12 22 kv0 (by decide) (by decide) trivial
  have f_I2 : FR [(12, 22)] Z I Z I2 := by rw [eI2]; exact FR_putF kv0 (by decide) List.mem_cons_self
  have q_I2 : FR Ws_X12_shut Z I Z I2 := q_I.trans w_I.1 w_I.2.1 (f_I2.mono (by decide))
  have u4 : (I2 v0 39).toInt = (I v0 39).toInt := by rw [f_I2.2.2.1 v0 12 39 kv0 (by decide) (by decide)]
  first | (have u5 : (I2 v0 22).toInt = (0) := by (rw [eI2, show jpI I v0 22 (0 : Int32) v0 22 = (0 : Int32) from jpI_at] <;> exact (show (0 : Int32).toInt = 0 from rfl))) | skip
  refine s_X12_isStep w_I2 v0 v1 kv0   (fun r6 p7 => ?_)
  have rr6 := i_rng r6
  refine ⟨fun c8 => ?_, fun c8 => ?_⟩
  · skip
    first | (have t9 : ¬ (r6.toInt = (0)) := (not_congr (i_eq rfl (show (0 : Int32).toInt = 0 from rfl))).mp c8) | (have t9 : ¬ (r6.toInt = (0 : Int32).toInt) := (not_congr (i_eq rfl rfl)).mp c8) | skip
    refine s_X12_findAll w_I2 bd_Z v0 kv0   (fun  Z12 I10 L11 w_I10 bd_Z12 f_I10 c_Z12  => ?_)
    have q_I10 : FR Ws_X12_shut Z I Z12 I10 := q_I2.trans w_I.1 w_I.2.1 (f_I10.mono (by decide))
    have cp_Z12 : CP Z Z12 := cp_Z.trans q_I2.1 c_Z12
    have x_Z12 := f_I10.1
    have k13 := (f_I10.1 _ _ kv0).1
    have u14 : (I10 v0 39).toInt = (I2 v0 39).toInt := by rw [f_I10.2.2.1 v0 12 39 kv0 (by decide) (by decide)]
    have u15 : (I10 v0 22).toInt = (I2 v0 22).toInt := by rw [f_I10.2.2.1 v0 12 22 kv0 (by decide) (by decide)]
    intro x16 ex16
    have rx16 := i_rng x16
    first | (have tx16 : x16.toInt = (I10 v0 48).toInt := by (rw [ex16]; exact rfl)) | (have tx16 : x16.toInt = (I10 v0 48).toInt := by rw [ex16])
    intro x17 ex17
    have rx17 := i_rng x17
    first | (have tx17 : x17.toInt = (I10 v0 49).toInt := by (rw [ex17]; exact rfl)) | (have tx17 : x17.toInt = (I10 v0 49).toInt := by rw [ex17])
    intro x18 ex18
    have rx18 := i_rng x18
    first | (have tx18 : x18.toInt = (I10 v0 50).toInt := by (rw [ex18]; exact rfl)) | (have tx18 : x18.toInt = (I10 v0 50).toInt := by rw [ex18])
    intro I19 eI19
    have w_I19 : WD Z12 I19 := by rw [eI19]; exact WD_putF w_I10 12 39 k13 (by decide) (by decide) (by constructor <;> omega)
    have f_I19 : FR [(12, 39)] Z12 I10 Z12 I19 := by rw [eI19]; exact FR_putF k13 (by decide) List.mem_cons_self
    have q_I19 : FR Ws_X12_shut Z I Z12 I19 := q_I10.trans w_I.1 w_I.2.1 (f_I19.mono (by decide))
    have u20 : (I19 v0 22).toInt = (I10 v0 22).toInt := by rw [f_I19.2.2.1 v0 12 22 k13 (by decide) (by decide)]
    have u21 : (I19 v0 48).toInt = (I10 v0 48).toInt := by rw [f_I19.2.2.1 v0 12 48 k13 (by decide) (by decide)]
    have u22 : (I19 v0 49).toInt = (I10 v0 49).toInt := by rw [f_I19.2.2.1 v0 12 49 k13 (by decide) (by decide)]
    have u23 : (I19 v0 50).toInt = (I10 v0 50).toInt := by rw [f_I19.2.2.1 v0 12 50 k13 (by decide) (by decide)]
    first | (have u24 : (I19 v0 39).toInt = v1.toInt := by (rw [eI19, show jpI I10 v0 39 v1 v0 39 = v1 from jpI_at] <;> exact rfl)) | skip
    refine s_X12_findAll w_I19 bd_Z12 v0 k13   (fun  Z27 I25 L26 w_I25 bd_Z27 f_I25 c_Z27  => ?_)
    have q_I25 : FR Ws_X12_shut Z I Z27 I25 := q_I19.trans w_I.1 w_I.2.1 (f_I25.mono (by decide))
    have cp_Z27 : CP Z Z27 := cp_Z12.trans q_I19.1 c_Z27
    have x_Z27 := f_I25.1
    have k28 := (f_I25.1 _ _ k13).1
    have u29 : (I25 v0 22).toInt = (I19 v0 22).toInt := by rw [f_I25.2.2.1 v0 12 22 k13 (by decide) (by decide)]
    have u30 : (I25 v0 39).toInt = (I19 v0 39).toInt := by rw [f_I25.2.2.1 v0 12 39 k13 (by decide) (by decide)]
    intro I31 eI31
    have t32 : (-1 : Int32).toInt = -1 := rfl
    have w_I31 : WD Z27 I31 := by rw [eI31]; exact WD_putF w_I25 12 39 k28 (by decide) (by decide) (by constructor <;> omega)
    have f_I31 : FR [(12, 39)] Z27 I25 Z27 I31 := by rw [eI31]; exact FR_putF k28 (by decide) List.mem_cons_self
    have q_I31 : FR Ws_X12_shut Z I Z27 I31 := q_I25.trans w_I.1 w_I.2.1 (f_I31.mono (by decide))
    have u33 : (I31 v0 22).toInt = (I25 v0 22).toInt := by rw [f_I31.2.2.1 v0 12 22 k28 (by decide) (by decide)]
    first | (have u34 : (I31 v0 39).toInt = (-1) := by (rw [eI31, show jpI I25 v0 39 (-1 : Int32) v0 39 = (-1 : Int32) from jpI_at] <;> exact (show (-1 : Int32).toInt = -1 from rfl))) | skip
    refine s_X12_tellMore w_I31 v0 x16 x17 x18 k28   (fun r35 I36 L37 w_I36 f_I36  => ?_)
    have q_I36 : FR Ws_X12_shut Z I Z27 I36 := q_I31.trans w_I.1 w_I.2.1 (f_I36.mono (by decide))
    have u38 : (I36 v0 22).toInt = (I31 v0 22).toInt := by rw [f_I36.2.2.1 v0 12 22 k28 (by decide) (by decide)]
    have u39 : (I36 v0 39).toInt = (I31 v0 39).toInt := by rw [f_I36.2.2.1 v0 12 39 k28 (by decide) (by decide)]
    have rr35 := i_rng r35
    exact hQ r35 Z27 I36 L37 w_I36 bd_Z27 q_I36 cp_Z27 (by omega)
  · skip
    first | (have t40 : r6.toInt = (0) := (i_eq rfl (show (0 : Int32).toInt = 0 from rfl)).mp c8) | (have t40 : r6.toInt = (0 : Int32).toInt := (i_eq rfl rfl).mp c8) | skip
    have t41 : (-1 : Int32).toInt = -1 := rfl
    exact hQ (-1 : Int32) Z I2 L w_I2 bd_Z q_I2 cp_Z (by omega)
/-! ===== a pilgrim is told: all of it, both sides ===== -/
theorem s22_X11_pilgrim {B : Nat × Nat} {T : Nat} {Z : jZ} {I : jI} {L : jL} (w : WD Z I) (bd : BUD B Z T) (v0 : Nat) (v1 v2 v3 v4 : Int32) (kv0 : jk Z v0 11) (ht : (I v0 4).toInt + (T : Int) = 6) (uF A : Nat) (hF : jr Z v0 2 = some uF) (hA : jr Z v0 3 = some A) {Q : Int32 → jZ → jI → jL → Prop}
    (hQ : ∀ (r : Int32) (Z' : jZ) (I' : jI) (L' : jL) (T' : Nat), WD Z' I' → BUD B Z' T' → (I' v0 4).toInt + (T' : Int) = 6 → jext Z Z' → jle Z Z' → FRp Z I Z' I' → PSp v0 v1 v2 v3 v4 r I I' → NPp Z I Z' I' v0 v1 v2 v3 v4 r → ((Z' = Z ∧ I' = I) ∨ RTp Z' I' uF A (I v0 4).toNatClampNeg v1 v2 v3) → Q r Z' I' L') : f_X11_pilgrim v0 v1 v2 v3 v4 Z I L Q :=
  rx_X11_pilgrim w kv0 uF A hF hA (Q1 := fun r Z' I' L' => ((Z' = Z ∧ I' = I) ∨ RTp Z' I' uF A (I v0 4).toNatClampNeg v1 v2 v3) → Q r Z' I' L') (s12_X11_pilgrim w bd v0 v1 v2 v3 v4 kv0 ht (fun r Z' I' L' T' a b c d e f p n rt => hQ r Z' I' L' T' a b c d e f p n rt)) (fun r Z' I' L' rt h => h rt)
def WPN : List (Nat × Nat) := [(11, 4), (5, 0), (5, 1), (5, 2), (5, 3), (6, 1), (6, 2), (6, 3)]
theorem PB_pil {W : List (Nat × Nat)} {Z Z' : jZ} {I I' I2 : jI} {v1 v2 uF uA t9 t10 t11 t12 : Nat} {a1 a2 a3 a4 r1 r2 : Int32} (h : PB Z I v1 uF v2 uA t9 t10 t11 t12) (x : jext Z Z') (w' : WD Z' I') (f : FRp Z I Z' I') (n : NPp Z I Z' I' v1 a1 a2 a3 a4 r1) (p : PSp v1 a1 a2 a3 a4 r1 I I') (rt : (Z' = Z ∧ I' = I) ∨ RTp Z' I' uF uA (I v1 4).toNatClampNeg a1 a2 a3) (f2 : FR W Z' I' Z' I2) (n2 : NQm Z' I' I2 v2 a1 a2 a3 a4 r2) (er : r1.toInt = r2.toInt) (e48 : (I v1 4).toInt = (I v2 8).toInt) (k1 : jk Z v1 11) (k2 : jk Z v2 12) (hA : jr Z v1 3 = some uA) (kA : jk Z uA 18) (hW : ∀ p ∈ WPN, p ∉ W) : PB Z' I2 v1 uF v2 uA t9 t10 t11 t12 := by
  obtain ⟨⟨h1, g1, h2, g2, h3, g3, h4, g4⟩, p0, p1, p2, p3, r⟩ := h
  have rf : ∀ (j b : Nat), jr Z v2 j = some b → jr Z' v2 j = some b := fun j b e => (f.1 v2 12 j k2 (by decide)).trans e
  refine ⟨⟨rf 9 _ h1, (x _ _ g1).1, rf 10 _ h2, (x _ _ g2).1, rf 11 _ h3, (x _ _ g3).1, rf 12 _ h4, (x _ _ g4).1⟩, ?_, ?_, ?_, ?_, ?_⟩
  · exact PRr_pil (j := 0) (m := 9) p0 x f n p f2 n2 er e48 k1 k2 hA g1 h1 (by decide) (hW _ (by decide)) (hW _ (by decide)) (fun z h => h.1)
  · exact PRr_pil (j := 1) (m := 10) p1 x f n p f2 n2 er e48 k1 k2 hA g2 h2 (by decide) (hW _ (by decide)) (hW _ (by decide)) (fun z h => h.2.1)
  · exact PRr_pil (j := 2) (m := 11) p2 x f n p f2 n2 er e48 k1 k2 hA g3 h3 (by decide) (hW _ (by decide)) (hW _ (by decide)) (fun z h => h.2.2.1)
  · exact PRr_pil (j := 3) (m := 12) p3 x f n p f2 n2 er e48 k1 k2 hA g4 h4 (by decide) (hW _ (by decide)) (hW _ (by decide)) (fun z h => h.2.2.2.1)
  · exact RTI_fr f2 (x _ _ k1).1 (x _ _ kA).1 (hW _ (by decide)) (hW _ (by decide)) (hW _ (by decide)) (hW _ (by decide)) (hW _ (by decide)) (hW _ (by decide)) (hW _ (by decide)) (RTI_pil r x w' f n p rt hA)
/-! ===== an empty world ===== -/
theorem lwC_0 {f : Nat → Int32} : lwC f 0 = [] := by
  unfold lwC
  exact if_pos (Int.le_refl 0)
theorem lwA_0 {f : Nat → Int32} : lwA f 0 = 0 := by
  unfold lwA
  exact if_pos (Int.le_refl 0)
theorem LWR_new {Z : jZ} {I : jI} {L : jL} {uF t30 t29 : Nat} (w : WD Z I) (kF : jk Z uF 8) (k30 : jk Z t30 14) (hN : ∀ a c, jk Z a c → fr1 I L a c) : LWR Z I uF t30 t29 := by
  intro i uL uC uX hi hL hC hX
  have kL : jk Z uL 3 := by
    have hj : i = 0 ∨ i = 1 := by omega
    rcases hj with rfl | rfl
    · obtain ⟨y, ey, k⟩ := sh_o w.1 kF (j := 6) (k := 3) rfl
      cases hL.symm.trans ey
      exact k
    · obtain ⟨y, ey, k⟩ := sh_o w.1 kF (j := 7) (k := 3) rfl
      cases hL.symm.trans ey
      exact k
  have e30 : I t30 i = 0 := by rw [(hN t30 14 k30).1]; exact jz_arr (by decide) i
  have e3 : (I uL 3).toInt = 0 := by rw [(hN uL 3 kL).1]; rfl
  have e4 : I uL 4 = 0 := by rw [(hN uL 3 kL).1]; rfl
  refine ⟨0, by rw [e30]; rfl, Int.le_refl 0, by decide, lwA_0, ?_⟩
  rw [lwC_0]
  exact ⟨e3, fun i hi => absurd hi (Nat.not_lt_zero i), e4⟩
theorem MK_new {Z : jZ} {I : jI} {L : jL} {q1 q2 uF : Nat} (uS u62 uA : Nat) (w : WD Z I) (k1 : jk Z q1 11) (k2 : jk Z q2 12) (kF : jk Z uF 8) (hN : ∀ a c, jk Z a c → fr1 I L a c) : ∃ uQ vQ uW vW t30 t29 u5c t6 t9 t10 t11 t12 : Nat, AK Z I uF q2 uS u62 uQ vQ ∧ ARr (I q2 0).toInt (I uQ) (I vQ) ∧ WI Z I uF q2 uW vW ∧ LB Z I uF q2 t30 t29 ∧ FB Z I uF q2 u5c t6 ∧ PB Z I q1 uF q2 uA t9 t10 t11 t12 ∧ (I q2 39).toInt = -1 := by
  have no9 : ∀ s : Nat, (s : Int) < (I q2 0).toInt → False := fun s hs => by
    rw [(hN q2 12 k2).1, show (jz 12 0).toInt = 0 from rfl] at hs
    omega
  have no4 : ∀ s : Nat, (s : Int) < (I q1 4).toInt → False := fun s hs => by
    rw [(hN q1 11 k1).1, show (jz 11 4).toInt = 0 from rfl] at hs
    omega
  obtain ⟨uQ, a1, b1, -⟩ := sh_f w.1 kF (j := 2) (k := 14) (m := 24) rfl
  obtain ⟨vQ, a2, b2, -⟩ := sh_f w.1 k2 (j := 3) (k := 14) (m := 24) rfl
  obtain ⟨uW, a3, b3, -⟩ := sh_f w.1 kF (j := 3) (k := 14) (m := 24) rfl
  obtain ⟨vW, a4, b4, -⟩ := sh_f w.1 k2 (j := 4) (k := 16) (m := 24) rfl
  obtain ⟨t30, a5, b5, -⟩ := sh_f w.1 k2 (j := 30) (k := 14) (m := 2) rfl
  obtain ⟨t29, a6, b6, -⟩ := sh_f w.1 k2 (j := 29) (k := 19) (m := 2) rfl
  obtain ⟨u5c, a7, b7, -⟩ := sh_f w.1 kF (j := 5) (k := 14) (m := 8) rfl
  obtain ⟨t6, a8, b8, -⟩ := sh_f w.1 k2 (j := 6) (k := 16) (m := 64) rfl
  obtain ⟨t9, a9, b9, -⟩ := sh_f w.1 k2 (j := 9) (k := 14) (m := 6) rfl
  obtain ⟨t10, c1, d1, -⟩ := sh_f w.1 k2 (j := 10) (k := 14) (m := 6) rfl
  obtain ⟨t11, c2, d2, -⟩ := sh_f w.1 k2 (j := 11) (k := 14) (m := 6) rfl
  obtain ⟨t12, c3, d3, -⟩ := sh_f w.1 k2 (j := 12) (k := 14) (m := 6) rfl
  refine ⟨uQ, vQ, uW, vW, t30, t29, u5c, t6, t9, t10, t11, t12, ⟨a1, b1, a2, b2, fun i b a hi hb hh ha s hs => (no9 s hs).elim⟩, fun s hs => (no9 s hs).elim, ⟨a3, b3, a4, b4, fun s hs => (no9 s hs).elim, fun s hs => (no9 s hs).elim⟩, ⟨a5, a6, LWR_new w kF b5 hN⟩, ⟨a7, b7, a8, b8, fun _ _ => False, fun f g h => h, fun f hf => ⟨0, by decide, ?_, fun g hg => ⟨fun h => ?_, fun h => h.elim⟩⟩, fun f g hf hg => ⟨fun h => h ?_, fun h => h.elim⟩⟩, ⟨⟨a9, b9, c1, d1, c2, d2, c3, d3⟩, fun i hi => (no4 i hi).elim, fun i hi => (no4 i hi).elim, fun i hi => (no4 i hi).elim, fun i hi => (no4 i hi).elim, fun i hi => (no4 i hi).elim⟩, ?_⟩
  · rw [(hN u5c 14 b7).1]
    exact jz_arr (by decide) f
  · rw [Nat.zero_div] at h
    exact absurd h (by decide)
  · rw [(hN t6 16 b8).1]
    exact jz_arr (by decide) _
  · rw [(hN q2 12 k2).1]
    rfl
end
section
/-! ===== step and of: what they answer, or that they throw ===== -/
/-- the class: thrown, or the answer lies in the box a -/
def ANc (V : Prop) (f : Int32) (r : Int32) (L : jL) (a : Nat) : Prop := (V ∧ r = 0 ∧ L a 0 = f.toInt64) ∨ (¬ V ∧ r = 1)
/-- the reference -/
def ANm (V : Prop) (f r t : Int32) : Prop := (V ∧ t = 0 ∧ r = f) ∨ (¬ V ∧ t = 1)
def OFv (f0 f1 f2 f3 f4 f5 f6 f7 v : Int32) : Int32 := if v = 0 then f0 else if v = 1 then f1 else if v = 2 then f2 else if v = 3 then f3 else if v = 4 then f4 else if v = 5 then f5 else if v = 6 then f6 else f7
def VOf (np : Int) (v1 v2 : Int32) : Prop := (0 ≤ v1.toInt ∧ v1.toInt < np) ∧ 0 ≤ v2.toInt ∧ v2.toInt ≤ 7
def STv (f0 f1 f2 f3 f4 v : Int32) : Int32 := if v = 0 then f0 else if v = 1 then f1 else if v = 2 then f2 else if v = 3 then f3 else f4
def VSt (n : Int) (v1 v2 : Int32) : Prop := (0 ≤ v1.toInt ∧ v1.toInt < n) ∧ 0 ≤ v2.toInt ∧ v2.toInt ≤ 4
theorem fd_ok {Z : jZ} {I : jI} {L : jL} (w : WD Z I) (v0 uA : Nat) (kv0 : jk Z v0 11) (hA : jr Z v0 3 = some uA) (v1 : Int32) (p q : Nat) (e1 : v1.toInt = (p : Int)) (hp : (p : Int) < (I v0 4).toInt) (hq : jr Z uA p = some q) {Q : Option Nat → jI → jL → Prop} (h : Q (some q) I L) : f_X11_find v0 v1 Z I L Q := by
  have n6 : 0 ≤ (I v0 4).toInt ∧ (I v0 4).toInt ≤ 6 := w.fld 11 4 kv0 (by decide)
  have z0 : (0 : Int32).toInt = 0 := rfl
  have z6 : (6 : Int32).toInt = 6 := rfl
  have n1 : v1.toNatClampNeg = p := by have := i_nat e1 (by omega); omega
  unfold f_X11_find
  refine ⟨fun c => absurd ((i_lt e1 z0).mp c) (by omega), fun _ => ⟨fun c => absurd ((i_le rfl e1).mp c) (by omega), fun _ => ?_⟩⟩
  intro b hb; cases hA.symm.trans hb
  refine ⟨fun c => absurd ((i_le z6 e1).mp c) (by omega), fun _ => ?_⟩
  intro b hb; cases hA.symm.trans hb
  refine ⟨vi_of e1 (by omega) (by omega), ?_⟩
  rw [n1]
  refine ⟨fun c => ?_, fun b hb => ?_⟩
  · rw [hq] at c
    cases c
  · cases hq.symm.trans hb
    exact h
theorem fd_no {Z : jZ} {I : jI} {L : jL} (v0 : Nat) (v1 : Int32) (c : ¬ (0 ≤ v1.toInt ∧ v1.toInt < (I v0 4).toInt)) {Q : Option Nat → jI → jL → Prop} (h : Q none I L) : f_X11_find v0 v1 Z I L Q := by
  have z0 : (0 : Int32).toInt = 0 := rfl
  unfold f_X11_find
  refine ⟨fun _ => h, fun c1 => ⟨fun _ => h, fun c2 => ?_⟩⟩
  have c1 := (not_congr (i_lt rfl z0)).mp c1
  have c2 := (not_congr (i_le rfl rfl)).mp c2
  exact absurd ⟨by omega, by omega⟩ c
theorem r_X11_step {Z : jZ} {I : jI} {L : jL} (w : WD Z I) (v0 : Nat) (kv0 : jk Z v0 11) {uF uR uX uQ uW uP x1 : Nat} (hF : jr Z v0 2 = some uF) (kF : jk Z uF 8) (hR : jr Z uF 0 = some uR) (hX : jr Z uF 1 = some uX) (hQ2 : jr Z uF 2 = some uQ) (hW : jr Z uF 3 = some uW) (hP : jr Z uF 4 = some uP) (hM : jr Z uP 1 = some x1) (v1 v2 : Int32) {Q : Int32 → jI → jL → Prop} {QX : jI → jL → Prop} (h0 : VSt (I uF 9).toInt v1 v2 → Q (STv (I uR v1.toInt.toNat) (I uX v1.toInt.toNat) (I uQ v1.toInt.toNat) (I uW v1.toInt.toNat) (I x1 v1.toInt.toNat) v2) I L) (h1 : ¬ VSt (I uF 9).toInt v1 v2 → QX I L) : f_X11_step v0 v1 v2 Z I L Q QX := by
  have y0 : (0 : Int32).toInt = 0 := rfl
  unfold f_X11_step
  intro b hb; cases hF.symm.trans hb
  refine s_X8_has w uF v1 kF (fun r hr => ⟨fun c => ?_, fun c => h1 (fun q => ?_)⟩)
  · have c := (not_congr (i_eq rfl y0)).mp c
    obtain ⟨p, e1⟩ : ∃ p : Nat, v1.toInt = (p : Int) := ⟨v1.toInt.toNat, by omega⟩
    have ep : v1.toInt.toNat = p := by omega
    have n1 : v1.toNatClampNeg = p := by have := i_nat e1 (by omega); omega
    have vi : vp_in v1 24 := vi_of e1 (by omega) (by omega)
    rw [ep] at h0
    have V : 0 ≤ v2.toInt ∧ v2.toInt ≤ 4 → VSt (I uF 9).toInt v1 v2 := fun h => ⟨by omega, h⟩
    have z0 : (0 : Int32).toInt = 0 := rfl
    have z1 : (1 : Int32).toInt = 1 := rfl
    have z2 : (2 : Int32).toInt = 2 := rfl
    have z3 : (3 : Int32).toInt = 3 := rfl
    have z4 : (4 : Int32).toInt = 4 := rfl
    refine ⟨fun c0 => ?_, fun c0 => ?_⟩
    · have d0 := (i_eq rfl z0).mp c0
      have h9 := h0 (V (by omega))
      unfold STv at h9
      rw [if_pos c0] at h9
      intro b hb; cases hF.symm.trans hb
      intro b hb; cases hR.symm.trans hb
      rw [n1]
      exact ⟨vi, h9⟩
    have d0 := (not_congr (i_eq rfl z0)).mp c0
    refine ⟨fun c1 => ?_, fun c1 => ?_⟩
    · have d1 := (i_eq rfl z1).mp c1
      have h9 := h0 (V (by omega))
      unfold STv at h9
      rw [if_neg c0, if_pos c1] at h9
      intro b hb; cases hF.symm.trans hb
      intro b hb; cases hX.symm.trans hb
      rw [n1]
      exact ⟨vi, h9⟩
    have d1 := (not_congr (i_eq rfl z1)).mp c1
    refine ⟨fun c2 => ?_, fun c2 => ?_⟩
    · have d2 := (i_eq rfl z2).mp c2
      have h9 := h0 (V (by omega))
      unfold STv at h9
      rw [if_neg c0, if_neg c1, if_pos c2] at h9
      intro b hb; cases hF.symm.trans hb
      intro b hb; cases hQ2.symm.trans hb
      rw [n1]
      exact ⟨vi, h9⟩
    have d2 := (not_congr (i_eq rfl z2)).mp c2
    refine ⟨fun c3 => ?_, fun c3 => ?_⟩
    · have d3 := (i_eq rfl z3).mp c3
      have h9 := h0 (V (by omega))
      unfold STv at h9
      rw [if_neg c0, if_neg c1, if_neg c2, if_pos c3] at h9
      intro b hb; cases hF.symm.trans hb
      intro b hb; cases hW.symm.trans hb
      rw [n1]
      exact ⟨vi, h9⟩
    have d3 := (not_congr (i_eq rfl z3)).mp c3
    refine ⟨fun c4 => ?_, fun c4 => ?_⟩
    · have d4 := (i_eq rfl z4).mp c4
      have h9 := h0 (V (by omega))
      unfold STv at h9
      rw [if_neg c0, if_neg c1, if_neg c2, if_neg c3] at h9
      intro b hb; cases hF.symm.trans hb
      intro b hb; cases hP.symm.trans hb
      exact r_X4_mainOf uP x1 hM v1 p e1 (by omega) h9
    have d4 := (not_congr (i_eq rfl z4)).mp c4
    exact h1 (fun q => by have := q.2; omega)
  · have c := (i_eq rfl y0).mp c
    have := q.1
    omega
theorem r_L_step {Z : jZ} {I : jI} {L : jL} (w : WD Z I) (v0 v3 : Nat) (kv0 : jk Z v0 11) (hl : jlen Z v3 = 1) {uF uR uX uQ uW uP x1 : Nat} (hF : jr Z v0 2 = some uF) (kF : jk Z uF 8) (hR : jr Z uF 0 = some uR) (hX : jr Z uF 1 = some uX) (hQ2 : jr Z uF 2 = some uQ) (hW : jr Z uF 3 = some uW) (hP : jr Z uF 4 = some uP) (hM : jr Z uP 1 = some x1) (v1 v2 : Int32) {Q : Int32 → jI → jL → Prop} (hQ : ∀ (r : Int32) (L' : jL), ANc (VSt (I uF 9).toInt v1 v2) (STv (I uR v1.toInt.toNat) (I uX v1.toInt.toNat) (I uQ v1.toInt.toNat) (I uW v1.toInt.toNat) (I x1 v1.toInt.toNat) v2) r L' v3 → Q r I L') : f_L_step v0 v1 v2 v3 Z I L Q := by
  unfold f_L_step
  refine r_X11_step w v0 kv0 hF kF hR hX hQ2 hW hP hM v1 v2 (fun V => ⟨by rw [hl]; exact vp_in_lit (by decide), fun L8 e8 => hQ 0 L8 (Or.inl ⟨V, rfl, ?_⟩)⟩) (fun n => hQ 1 L (Or.inr ⟨n, rfl⟩))
  rw [e8]
  exact jpL_at
theorem r_X12_step {Z : jZ} {I : jI} {L : jL} (w : WD Z I) (v0 : Nat) (v1 v2 : Int32) (kv0 : jk Z v0 12) {vR vX vQ vW u5 : Nat} (hR : jr Z v0 1 = some vR) (kR : jk Z vR 14) (hX : jr Z v0 2 = some vX) (kX : jk Z vX 14) (hQ2 : jr Z v0 3 = some vQ) (kQ2 : jk Z vQ 14) (hW : jr Z v0 4 = some vW) (kW : jk Z vW 16) (h5 : jr Z v0 5 = some u5) (k5 : jk Z u5 14) (mn : Nat → Int32) (hm : ∀ s : Nat, (s : Int) < (I v0 0).toInt → (mn s).toInt = (mnR (I u5) s : Int)) {Q : Int32 → jI → jL → Prop} (hQ : ∀ (r : Int32) (I' : jI), WD Z I' → FR [(12, 22)] Z I Z I' → ANm (VSt (I v0 0).toInt v1 v2) (STv (I vR v1.toInt.toNat) (I vX v1.toInt.toNat) (I vQ v1.toInt.toNat) (if I vW v1.toInt.toNat = 0 then 0 else 1) (mn v1.toInt.toNat) v2) r (I' v0 22) → Q r I' L) : f_X12_step v0 v1 v2 Z I L Q := by
  have y0 : (0 : Int32).toInt = 0 := rfl
  have y4 : (4 : Int32).toInt = 4 := rfl
  have n24 : 0 ≤ (I v0 0).toInt ∧ (I v0 0).toInt ≤ 24 := w.fld 12 0 kv0 (by decide)
  unfold f_X12_step
  intro I8 e8
  have w8 : WD Z I8 := by rw [e8]; exact WD_putF w 12 22 kv0 (by decide) (by decide) trivial
  have f8 : FR [(12, 22)] Z I Z I8 := by rw [e8]; exact FR_putF kv0 (by decide) List.mem_cons_self
  have m8 : (I8 v0 0).toInt = (I v0 0).toInt := by rw [f8.2.2.1 v0 12 0 kv0 (by decide) (by decide)]
  have m22 : I8 v0 22 = 0 := by rw [e8, jpI_at]
  have bad : ¬ VSt (I v0 0).toInt v1 v2 → f_X12_step_b22 Z Q v0 I8 L := fun n => by
    unfold f_X12_step_b22 f_X12_lost
    intro I9 e9
    exact hQ 0 I9 (by rw [e9]; exact WD_putF w8 12 22 kv0 (by decide) (by decide) trivial) (f8.trans w.1 w.2.1 (by rw [e9]; exact FR_putF kv0 (by decide) List.mem_cons_self)) (Or.inr ⟨n, by rw [e9, jpI_at]⟩)
  refine s_X12_isStep w8 v0 v1 kv0 (fun r hr => ⟨fun c => bad (fun q => ?_), fun c => ?_⟩)
  · have c := (i_eq rfl y0).mp c
    have := q.1
    omega
  have c := (not_congr (i_eq rfl y0)).mp c
  refine s_X12_in w8 v2 0 4 (fun r2 hr2 => ⟨fun c2 => ?_, fun c2 => bad (fun q => ?_)⟩)
  · have c2 := (not_congr (i_eq rfl y0)).mp c2
    rw [y0, y4] at hr2
    have V : VSt (I v0 0).toInt v1 v2 := ⟨by omega, by omega⟩
    obtain ⟨p, e1⟩ : ∃ p : Nat, v1.toInt = (p : Int) := ⟨v1.toInt.toNat, by omega⟩
    have ep : v1.toInt.toNat = p := by omega
    have n1 : v1.toNatClampNeg = p := by have := i_nat e1 (by omega); omega
    have vi : vp_in v1 24 := vi_of e1 (by omega) (by omega)
    rw [ep] at hQ
    have z0 : (0 : Int32).toInt = 0 := rfl
    have z1 : (1 : Int32).toInt = 1 := rfl
    have z2 : (2 : Int32).toInt = 2 := rfl
    have z3 : (3 : Int32).toInt = 3 := rfl
    refine ⟨fun c0 => ⟨fun c1 => ⟨fun c2 => ⟨fun c3 => ?_, fun c3 => ?_⟩, fun c2 => ?_⟩, fun c1 => ?_⟩, fun c0 => ?_⟩
    · have a5 : I8 u5 = I u5 := f8.2.2.2 v0 12 5 u5 kv0 h5 (by rw [k5.2]; rfl) rfl (by decide)
      refine s17_X12_mainOf v0 v1 u5 h5 p e1 (by omega) (fun r3 e3 => hQ _ I8 w8 f8 (Or.inl ⟨V, m22, ?_⟩))
      unfold STv
      rw [if_neg c0, if_neg c1, if_neg c2, if_neg c3]
      rw [a5] at e3
      exact (i_eq rfl rfl).mpr (e3.trans (hm p (by omega)).symm)
    · intro b hb; cases hW.symm.trans hb
      rw [n1]
      have a4 : I8 vW = I vW := f8.2.2.2 v0 12 4 vW kv0 hW (by rw [kW.2]; rfl) rfl (by decide)
      refine ⟨vi, fun c4 => hQ _ I8 w8 f8 (Or.inl ⟨V, m22, ?_⟩), fun c4 => hQ _ I8 w8 f8 (Or.inl ⟨V, m22, ?_⟩)⟩
      · rw [a4] at c4
        unfold STv
        rw [if_neg c0, if_neg c1, if_neg c2, if_pos c3, if_pos c4]
      · rw [a4] at c4
        unfold STv
        rw [if_neg c0, if_neg c1, if_neg c2, if_pos c3, if_neg c4]
    · intro b hb; cases hQ2.symm.trans hb
      rw [n1]
      refine ⟨vi, hQ _ I8 w8 f8 (Or.inl ⟨V, m22, ?_⟩)⟩
      unfold STv
      rw [if_neg c0, if_neg c1, if_pos c2]
      exact congrFun (f8.2.2.2 v0 12 3 vQ kv0 hQ2 (by rw [kQ2.2]; rfl) rfl (by decide)) p
    · intro b hb; cases hX.symm.trans hb
      rw [n1]
      refine ⟨vi, hQ _ I8 w8 f8 (Or.inl ⟨V, m22, ?_⟩)⟩
      unfold STv
      rw [if_neg c0, if_pos c1]
      exact congrFun (f8.2.2.2 v0 12 2 vX kv0 hX (by rw [kX.2]; rfl) rfl (by decide)) p
    · intro b hb; cases hR.symm.trans hb
      rw [n1]
      refine ⟨vi, hQ _ I8 w8 f8 (Or.inl ⟨V, m22, ?_⟩)⟩
      unfold STv
      rw [if_pos c0]
      exact congrFun (f8.2.2.2 v0 12 1 vR kv0 hR (by rw [kR.2]; rfl) rfl (by decide)) p
  · have c2 := (i_eq rfl y0).mp c2
    rw [y0, y4] at hr2
    have := q.2
    omega
theorem MN_eq {Z : jZ} {I : jI} {v2 x0 x1 u5 : Nat} (w : WD Z I) (k2 : jk Z v2 12) (hp : PP (I v2 0).toInt.toNat (I x0) (I u5)) (hm : MAI I x0 x1) : ∀ s : Nat, (s : Int) < (I v2 0).toInt → (I x1 s).toInt = (mnR (I u5) s : Int) := fun s hs => by
  have n24 : 0 ≤ (I v2 0).toInt ∧ (I v2 0).toInt ≤ 24 := w.fld 12 0 k2 (by decide)
  rw [hm s (by omega), mnR_cg (T := I u5) (T' := I x0) (s := s) (fun i hi => hp.1 (8 * s + i) (by omega))]
theorem ST_eq {n : Int} {R X A W M R' X' A' W' : Nat → Int32} {v1 v2 : Int32} (v : VSt n v1 v2) (h0 : ARr n R R') (h1 : ARr n X X') (h2 : ARr n A A') (h3 : ARr n W W') (hw : ∀ s : Nat, (s : Int) < n → W s = 0 ∨ W s = 1) : STv (R v1.toInt.toNat) (X v1.toInt.toNat) (A v1.toInt.toNat) (W v1.toInt.toNat) (M v1.toInt.toNat) v2 = STv (R' v1.toInt.toNat) (X' v1.toInt.toNat) (A' v1.toInt.toNat) (if W' v1.toInt.toNat = 0 then 0 else 1) (M v1.toInt.toNat) v2 := by
  have l : (v1.toInt.toNat : Int) < n := by have := v.1; omega
  have e : (if W' v1.toInt.toNat = 0 then (0 : Int32) else 1) = W v1.toInt.toNat := by
    rw [← h3 _ l]
    rcases hw _ l with c | c
    · rw [if_pos c, c]
    · rw [c]
      rfl
  rw [e, h0 _ l, h1 _ l, h2 _ l]
/-- both sides: thrown alike, and the same answer -/
theorem AN_eq {V V' : Prop} {f f' r b t : Int32} {L : jL} {a : Nat} (hV : V ↔ V') (hf : V → f = f') (h : ANc V f r L a) (h' : ANm V' f' b t) : t = r ∧ (r = 0 → L a 0 = b.toInt64) := by
  rcases h with ⟨v, e, l⟩ | ⟨n, e⟩
  · rcases h' with ⟨-, e', l'⟩ | ⟨n', -⟩
    · exact ⟨e'.trans e.symm, fun _ => by rw [l, l', hf v]⟩
    · exact absurd (hV.mp v) n'
  · rcases h' with ⟨v', -, -⟩ | ⟨-, e'⟩
    · exact absurd (hV.mpr v') n
    · exact ⟨e'.trans e.symm, fun q => by rw [e] at q; exact absurd q (by decide)⟩
end
